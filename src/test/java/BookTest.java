/** Promises 1 to 12, 45 and 46: sorts, houses, sheets, days, the book of MOVES. */
public final class BookTest {
    private static final Check CHECK = new Check();

    public static void main(String[] args) {
        newObject();
        sorts();
        houses();
        sheets();
        days();
        moves();
        movesOutOfPlace();
        undone();
        whereAndSince();
        washes();
        nights();
        many();
        told();
        counts();
        CHECK.end();
    }

    /** Two SORTS, two HOUSES, three SHEETS on DAY 2, TODAY 10. */
    private static LinenPool pool() {
        LinenPool pool = new LinenPool();
        pool.sort(10, 0, 5, 20, 100);
        pool.sort(25, 1, 8, 10, 60);
        pool.house(1, 3, 4, 60);
        pool.house(2, 10, 0, 100);
        pool.day(2);
        pool.sheet(0, 0);
        pool.sheet(0, 1);
        pool.sheet(1, 2);
        pool.day(10);
        return pool;
    }

    private static void newObject() {
        LinenPool pool = new LinenPool();
        for (int what = 0; what <= 12; what++) {
            CHECK.due("1: count(" + what + ")", pool.count(what), 0);
        }
        CHECK.due("1: where", pool.where(0, 0, 0), -1);
        CHECK.due("1: price", pool.price(0, 0), -1);
        CHECK.due("1: fault", pool.fault(), -1);
        CHECK.due("1: written", pool.written(0, -1), -1);
        CHECK.due("1: wanted", pool.wanted(0, 0), -1);
        CHECK.due("1: night", pool.night(0), -1);
        CHECK.due("1: NONE", LinenPool.NONE, -1);
    }

    private static void sorts() {
        LinenPool pool = new LinenPool();
        int[] least = {1, 0, 1, 1, 1};
        int[] most = {60, 3, 90, 250, 1000};
        CHECK.due("2: least", pool.sort(1, 0, 1, 1, 1), 0);
        CHECK.due("2: most", pool.sort(60, 3, 90, 250, 1000), 1);
        for (int i = 0; i < 5; i++) {
            int[] below = least.clone();
            below[i]--;
            CHECK.due("2: below " + i, pool.sort(below[0], below[1], below[2], below[3], below[4]), -1);
            int[] above = most.clone();
            above[i]++;
            CHECK.due("2: above " + i, pool.sort(above[0], above[1], above[2], above[3], above[4]), -1);
        }
        CHECK.due("2: refused ones do nothing", pool.count(1), 2);
        for (int i = 2; i < 6; i++) {
            CHECK.due("2: sort " + i, pool.sort(1, 1, 1, 1, 1), i);
        }
        CHECK.due("2: full", pool.sort(1, 1, 1, 1, 1), -1);
        CHECK.due("2: full does nothing", pool.count(1), 6);
    }

    private static void houses() {
        LinenPool pool = new LinenPool();
        int[] least = {0, 0, 0, 0};
        int[] most = {3, 99, 99, 1440};
        CHECK.due("3: least", pool.house(0, 0, 0, 0), 0);
        CHECK.due("3: most", pool.house(3, 99, 99, 1440), 1);
        for (int i = 0; i < 4; i++) {
            int[] below = least.clone();
            below[i]--;
            CHECK.due("3: below " + i, pool.house(below[0], below[1], below[2], below[3]), -1);
            int[] above = most.clone();
            above[i]++;
            CHECK.due("3: above " + i, pool.house(above[0], above[1], above[2], above[3]), -1);
        }
        CHECK.due("3: refused ones do nothing", pool.count(2), 2);
        for (int i = 2; i < 8; i++) {
            CHECK.due("3: house " + i, pool.house(0, 1, 1, 1), i);
        }
        CHECK.due("3: full", pool.house(0, 1, 1, 1), -1);
        CHECK.due("3: full does nothing", pool.count(2), 8);
    }

    private static void sheets() {
        LinenPool pool = new LinenPool();
        CHECK.due("4: no sort", pool.sheet(0, 0), -1);
        pool.sort(10, 0, 5, 20, 100);
        CHECK.due("4: sort 1", pool.sheet(1, 0), -1);
        CHECK.due("4: sort -1", pool.sheet(-1, 0), -1);
        CHECK.due("4: lot -1", pool.sheet(0, -1), -1);
        CHECK.due("4: lot 4", pool.sheet(0, 4), -1);
        CHECK.due("4: refused ones do nothing", pool.count(3), 0);
        pool.day(7);
        for (int i = 0; i < 150; i++) {
            CHECK.due("4: sheet " + i, pool.sheet(0, i % 4), i);
        }
        CHECK.due("4: full", pool.sheet(0, 0), -1);
        CHECK.due("4: full does nothing", pool.count(3), 150);
        CHECK.due("4: comes into STOCK", pool.where(149, 7, 7), 0);
        CHECK.due("4: came TODAY", pool.told(149, 2), 7);
    }

    private static void days() {
        LinenPool pool = new LinenPool();
        CHECK.due("5: the same", pool.day(0), false);
        CHECK.due("5: below 0", pool.day(-1), false);
        CHECK.due("5: later", pool.day(3), true);
        CHECK.due("5: earlier", pool.day(2), false);
        CHECK.due("5: TODAY", pool.count(0), 3);
        CHECK.due("5: above 1,000", pool.day(1001), false);
        CHECK.due("5: far above", pool.day(Integer.MAX_VALUE), false);
        CHECK.due("5: does nothing", pool.count(0), 3);
        CHECK.due("5: 1,000", pool.day(1000), true);
        CHECK.due("5: no more", pool.day(1001), false);
    }

    private static void moves() {
        LinenPool pool = pool();
        CHECK.due("6: on the day it came", pool.move(0, 2, 10), 0);
        CHECK.due("6: TODAY", pool.move(1, 10, 11), 1);
        CHECK.due("6: ahead of its coming", pool.move(0, 1, 10), -1);
        CHECK.due("6: behind TODAY", pool.move(0, 11, 10), -1);
        CHECK.due("6: no sheet", pool.move(3, 5, 10), -1);
        CHECK.due("6: no sheet", pool.move(-1, 5, 10), -1);
        int[] wrong = {-1, 5, 9, 12, Integer.MIN_VALUE, Integer.MAX_VALUE};
        for (int place : wrong) {
            CHECK.due("6: place " + place, pool.move(0, 5, place), -1);
        }
        CHECK.due("6: refused ones do nothing", pool.count(4), 2);
        for (int place = 0; place <= 4; place++) {
            CHECK.due("6: place " + place, pool.move(2, 3 + place, place), 2 + place);
            CHECK.due("6: there", pool.where(2, 3 + place, 10), place);
        }
        // beyond the 512th call answers are free, but the class must stay safe
        for (int i = 7; i < 600; i++) {
            CHECK.due("6: move " + i, pool.move(2, 9, i % 5), i);
        }
        CHECK.due("6: full", pool.move(2, 9, 0), -1);
        CHECK.due("6: full does nothing", pool.count(4), 600);
        CHECK.due("19: full, none such comes first", pool.read(0, 0), -1);
        pool.bag(0, 5);
        CHECK.due("19: full", pool.read(0, 0), -4);
    }

    /** MOVES told late stand by their DAYS, those of one DAY as they were told. */
    private static void movesOutOfPlace() {
        LinenPool pool = pool();
        pool.move(0, 8, 1);
        pool.move(0, 4, 10);
        pool.move(0, 6, 11);
        pool.move(0, 6, 3);
        pool.move(0, 4, 4);
        int[] due = {-1, -1, 0, 0, 4, 4, 3, 3, 1, 1, 1};
        for (int day = 0; day <= 10; day++) {
            CHECK.due("8: on day " + day, pool.where(0, day, 10), due[day]);
        }
        pool.undo(3);
        CHECK.due("8: without the last of day 6", pool.where(0, 7, 10), 11);
        CHECK.due("8: another sheet", pool.where(1, 10, 10), 0);
    }

    private static void undone() {
        LinenPool pool = pool();
        pool.move(0, 4, 10);
        pool.day(12);
        pool.move(0, 11, 1);
        pool.day(14);
        CHECK.due("7: none such", pool.undo(2), false);
        CHECK.due("7: none such", pool.undo(-1), false);
        CHECK.due("7: undone", pool.undo(1), true);
        CHECK.due("7: it is", pool.undo(1), false);
        CHECK.due("7: how many", pool.count(12), 1);
        CHECK.due("7: known ahead of that day", pool.where(0, 14, 13), 1);
        CHECK.due("7: not from that day on", pool.where(0, 14, 14), 10);
        CHECK.due("7: nor later", pool.where(0, 14, 1000), 10);
        CHECK.due("7: not ahead of the telling", pool.where(0, 14, 11), 10);
        CHECK.due("7: nor the first", pool.where(0, 14, 9), 0);
        int move = pool.move(0, 14, 2);
        pool.undo(move);
        CHECK.due("7: told and undone on one day", pool.where(0, 14, 14), 10);
    }

    private static void whereAndSince() {
        LinenPool pool = pool();
        pool.move(0, 4, 10);
        CHECK.due("8: not come by the day", pool.where(0, 1, 10), -1);
        CHECK.due("8: not come by the known one", pool.where(0, 10, 1), -1);
        CHECK.due("8: come by both", pool.where(0, 2, 2), 0);
        CHECK.due("8: known later", pool.where(0, 4, 9), 0);
        CHECK.due("8: known", pool.where(0, 4, 10), 10);
        CHECK.due("8: days to come", pool.where(0, 1000, 1000), 10);
        CHECK.due("8: day 1,001", pool.where(0, 1001, 10), -1);
        CHECK.due("8: known 1,001", pool.where(0, 10, 1001), -1);
        CHECK.due("8: day -1", pool.where(0, -1, 10), -1);
        CHECK.due("8: known -1", pool.where(0, 10, -1), -1);
        CHECK.due("8: no sheet", pool.where(3, 10, 10), -1);
        CHECK.due("8: no sheet", pool.where(-1, 10, 10), -1);
        CHECK.due("9: its move's day", pool.since(0, 9, 10), 4);
        CHECK.due("9: the day on which it came", pool.since(0, 3, 10), 2);
        CHECK.due("9: as known", pool.since(0, 9, 9), 2);
        CHECK.due("9: not come", pool.since(0, 1, 10), -1);
        CHECK.due("9: no sheet", pool.since(9, 9, 9), -1);
        CHECK.due("9: day 1,001", pool.since(0, 1001, 10), -1);
    }

    private static void washes() {
        LinenPool pool = pool();
        pool.move(0, 3, 2);
        pool.move(0, 4, 0);
        pool.move(0, 5, 2);
        pool.move(0, 5, 1);
        pool.move(0, 6, 0);
        pool.move(0, 7, 2);
        pool.move(0, 7, 0);
        pool.move(0, 8, 0);
        CHECK.due("10: right behind WASH alone", pool.washes(0, 10, 10), 2);
        CHECK.due("10: up to a day", pool.washes(0, 6, 10), 1);
        CHECK.due("10: none yet", pool.washes(0, 3, 10), 0);
        pool.day(11);
        pool.undo(3);
        CHECK.due("10: what stood between is gone", pool.washes(0, 11, 11), 3);
        CHECK.due("10: as known", pool.washes(0, 11, 10), 2);
        CHECK.due("10: not come", pool.washes(0, 1, 10), -1);
        CHECK.due("10: no sheet", pool.washes(3, 10, 10), -1);
    }

    private static void nights() {
        LinenPool pool = pool();
        pool.move(0, 3, 10);
        pool.move(0, 5, 11);
        pool.move(0, 5, 1);
        pool.move(0, 6, 11);
        pool.move(0, 8, 10);
        CHECK.due("11: two stays", pool.nights(0, 0, 10, 10), 5);
        CHECK.due("11: the other", pool.nights(0, 1, 10, 10), 2);
        CHECK.due("11: of one day the end", pool.nights(0, 1, 5, 10), 0);
        CHECK.due("11: up to a day", pool.nights(0, 0, 3, 10), 1);
        CHECK.due("11: days to come", pool.nights(0, 0, 1000, 10), 995);
        CHECK.due("11: as known", pool.nights(0, 0, 10, 9), 0);
        CHECK.due("11: no house", pool.nights(0, 2, 10, 10), -1);
        CHECK.due("11: no house", pool.nights(0, -1, 10, 10), -1);
        CHECK.due("11: not come", pool.nights(0, 0, 1, 10), -1);
        CHECK.due("11: no sheet", pool.nights(5, 0, 10, 10), -1);
    }

    private static void many() {
        LinenPool pool = pool();
        pool.move(0, 3, 10);
        pool.move(2, 3, 10);
        CHECK.due("12: of a sort", pool.many(10, 0, 10, 10), 1);
        CHECK.due("12: of the other", pool.many(10, 1, 10, 10), 1);
        CHECK.due("12: in stock", pool.many(0, 0, 10, 10), 1);
        CHECK.due("12: ahead of it", pool.many(0, 0, 2, 10), 2);
        CHECK.due("12: not come", pool.many(0, 0, 1, 10), 0);
        CHECK.due("12: as known", pool.many(0, 0, 10, 9), 2);
        CHECK.due("12: not come by the known one", pool.many(0, 0, 10, 1), 0);
        CHECK.due("12: no place", pool.many(5, 0, 10, 10), -1);
        CHECK.due("12: no house", pool.many(12, 0, 10, 10), -1);
        CHECK.due("12: no sort", pool.many(0, 2, 10, 10), -1);
        CHECK.due("12: no day", pool.many(0, 0, 1001, 10), -1);
        CHECK.due("12: no known day", pool.many(0, 0, 10, -1), -1);
    }

    private static void told() {
        LinenPool pool = pool();
        pool.move(2, 4, 11);
        pool.move(2, 3, 1);
        pool.day(12);
        pool.undo(1);
        int[] sheet = {1, 2, 2, 2, -1};
        for (int what = 0; what < 5; what++) {
            CHECK.due("45: sheet, what " + what, pool.told(2, what), sheet[what]);
        }
        int[] move = {2, 3, 1, 10, 12, -1};
        for (int what = 10; what < 16; what++) {
            CHECK.due("45: move, what " + what, pool.told(1, what), move[what - 10]);
        }
        CHECK.due("45: not undone", pool.told(0, 14), -1);
        CHECK.due("45: the first move", pool.told(0, 12), 11);
        CHECK.due("45: no sheet", pool.told(3, 0), -1);
        CHECK.due("45: no sheet", pool.told(-1, 0), -1);
        CHECK.due("45: no move", pool.told(2, 10), -1);
        CHECK.due("45: no move", pool.told(-1, 10), -1);
        CHECK.due("45: what -1", pool.told(0, -1), -1);
        CHECK.due("45: what far off", pool.told(0, Integer.MAX_VALUE), -1);
    }

    private static void counts() {
        LinenPool pool = pool();
        pool.move(0, 3, 10);
        pool.undo(0);
        pool.bag(0, 3);
        pool.bag(1, 3);
        pool.washer(1, 1, 1);
        pool.job(0, 1, 1);
        pool.job(0, 1, 1);
        pool.terms(0);
        pool.heat(1, 1, 1);
        pool.counted(0, 0, 1, 1);
        pool.counted(0, 0, 1, 1);
        pool.counted(0, 0, 1, 1);
        pool.feed(0, 0, 0, 0, 0);
        int[] due = {10, 2, 2, 3, 1, 2, 1, 1, 2, 20, 1, 3, 1};
        for (int what = 0; what < due.length; what++) {
            CHECK.due("46: count(" + what + ")", pool.count(what), due[what]);
        }
        CHECK.due("46: 13", pool.count(13), -1);
        CHECK.due("46: -1", pool.count(-1), -1);
    }
}
