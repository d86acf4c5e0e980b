/**
 * The sentences of "Terms" and "==== 2." that name an edge, one test each: how many there may be, which DAYS
 * count, what is just less, cut or cut up. The bounds of single arguments stand in BoundsTest.
 */
public final class EdgesOfSheetsTest {
    private static final Check CHECK = new Check();

    public static void main(String[] args) {
        sortsUpToSix();
        housesUpToEight();
        sheetsUpTo150();
        daysUpTo1000();
        placesOfHouses();
        movesFromItsComingToToday();
        knownFromTellingTillUndone();
        historyByDays();
        stockWithoutAMove();
        comeByBoth();
        washesRightBehind();
        nightsEnded();
        heatsUpTo60();
        provenAtLeast();
        provenByOneHeat();
        unsafeByTheLast();
        unsafeInStockOrAtAHouse();
        bagsUpTo60();
        readRefusals();
        missesBehindSince();
        missesTwelveAtMost();
        missedAtFirst();
        beyondAtFirst();
        doubtIsLess();
        countsUpTo60();
        shortAsKnown();
        shortOfTheGreatest();
        CHECK.end();
    }

    /** SORTS 0 and 1, HOUSES 0 and 1, a SHEET of each SORT, TODAY 0. */
    private static LinenPool pool() {
        LinenPool pool = new LinenPool();
        pool.sort(10, 0, 5, 20, 100);
        pool.sort(25, 1, 8, 10, 60);
        pool.house(1, 3, 4, 60);
        pool.house(2, 10, 0, 100);
        pool.sheet(0, 0);
        pool.sheet(1, 1);
        return pool;
    }

    /** "SORTS, up to 6" */
    private static void sortsUpToSix() {
        LinenPool pool = new LinenPool();
        for (int i = 0; i < 6; i++) {
            CHECK.due("no sort " + i + " yet", pool.sheet(i, 0), -1);
            CHECK.due("sort " + i, pool.sort(1 + i, 0, 1, 1, 20 * (i + 1)), i);
        }
        CHECK.due("a seventh sort", pool.sort(60, 3, 90, 250, 1000), -1);
        CHECK.due("six are there", pool.count(1), 6);
        CHECK.due("no sheet of a seventh", pool.sheet(6, 0), -1);
        pool.house(0, 0, 0, 0);
        for (int i = 0; i < 6; i++) {
            CHECK.due("sheet of sort " + i, pool.sheet(i, 0), i);
            CHECK.due("its price still", pool.price(i, 0), 1 + i);
        }
    }

    /** "HOUSES, up to 8" */
    private static void housesUpToEight() {
        LinenPool pool = new LinenPool();
        for (int i = 0; i < 8; i++) {
            CHECK.due("no house " + i + " yet", pool.round(1 << i, 0, 0), -1);
            CHECK.due("house " + i, pool.house(0, i, 0, 1440), i);
        }
        CHECK.due("a ninth house", pool.house(0, 99, 99, 0), -1);
        CHECK.due("eight are there", pool.count(2), 8);
        CHECK.due("no ninth", pool.round(256, 0, 0), -1);
        for (int i = 0; i < 8; i++) {
            CHECK.due("the way to house " + i + " and back", pool.round(1 << i, 0, 1), 2 * i + 5);
        }
    }

    /** "SHEETS, up to 150" */
    private static void sheetsUpTo150() {
        LinenPool pool = pool();
        for (int i = 2; i < 150; i++) {
            CHECK.due("sheet " + i, pool.sheet(i % 2, i % 4), i);
        }
        CHECK.due("sheet 149 is the last", pool.where(149, 0, 0), 0);
        CHECK.due("no sheet 150", pool.where(150, 0, 0), -1);
        CHECK.due("a 151st", pool.sheet(0, 0), -1);
        CHECK.due("150 are there", pool.count(3), 150);
        CHECK.due("nor is it in stock", pool.many(0, 0, 0, 0), 75);
        CHECK.due("no move of it", pool.move(150, 0, 1), -1);
        CHECK.due("the last one moves", pool.move(149, 0, 11), 0);
        CHECK.due("to the house", pool.many(11, 1, 0, 0), 1);
    }

    /** "DAYS 0 to 1,000, TODAY is 0 at first" */
    private static void daysUpTo1000() {
        LinenPool pool = pool();
        CHECK.due("0 at first", pool.count(0), 0);
        CHECK.due("0 is not later", pool.day(0), false);
        CHECK.due("1 is", pool.day(1), true);
        CHECK.due("999", pool.day(999), true);
        CHECK.due("1,001 isn't there", pool.day(1001), false);
        CHECK.due("it's 999 still", pool.count(0), 999);
        CHECK.due("1,000", pool.day(1000), true);
        CHECK.due("a move on it", pool.move(0, 1000, 10), 0);
        CHECK.due("a heat on it", pool.heat(1000, 1, 1), 1);
        CHECK.due("a bag on it", pool.bag(0, 1000), 0);
        CHECK.due("a count on it", pool.counted(0, 0, 1000, 0), 1);
        CHECK.due("none later", pool.day(1001), false);
        CHECK.due("where on it", pool.where(0, 1000, 1000), 10);
        CHECK.due("no move behind it", pool.move(0, 1001, 10), -1);
    }

    /** "10 and h HOUSE h" */
    private static void placesOfHouses() {
        LinenPool pool = new LinenPool();
        pool.sort(10, 0, 5, 20, 100);
        pool.sheet(0, 0);
        CHECK.due("no house 0", pool.move(0, 0, 10), -1);
        CHECK.due("nor any there", pool.many(10, 0, 0, 0), -1);
        for (int i = 0; i < 8; i++) {
            CHECK.due("not yet at house " + i, pool.move(0, 0, 10 + i), -1);
            pool.house(0, 0, 0, 0);
            CHECK.due("to house " + i, pool.move(0, 0, 10 + i), i);
            CHECK.due("at house " + i, pool.where(0, 0, 0), 10 + i);
            CHECK.due("one there", pool.many(10 + i, 0, 0, 0), 1);
        }
        CHECK.due("no place 18", pool.move(0, 0, 18), -1);
        CHECK.due("none is there", pool.many(18, 0, 0, 0), -1);
    }

    /** "on a DAY (from that on which it came to TODAY)" */
    private static void movesFromItsComingToToday() {
        LinenPool pool = pool();
        pool.day(5);
        pool.sheet(0, 0);
        CHECK.due("the day ahead of its coming", pool.move(2, 4, 1), -1);
        CHECK.due("the day on which it came", pool.move(2, 5, 1), 0);
        CHECK.due("the day behind today", pool.move(2, 6, 1), -1);
        CHECK.due("day 0, of one that came then", pool.move(0, 0, 1), 1);
        CHECK.due("below 0", pool.move(0, -1, 1), -1);
        pool.day(6);
        CHECK.due("today then", pool.move(2, 6, 1), 2);
        CHECK.due("refused ones aren't told", pool.count(4), 3);
        CHECK.due("nor of the sheet", pool.told(2, 3), 2);
    }

    /** "told TODAY it's KNOWN from TODAY on, till it's UNDONE (from that DAY on it isn't)" */
    private static void knownFromTellingTillUndone() {
        LinenPool pool = pool();
        pool.day(4);
        pool.move(0, 2, 10);
        pool.day(7);
        pool.undo(0);
        CHECK.due("the day ahead of the telling", pool.where(0, 9, 3), 0);
        CHECK.due("the day of the telling", pool.where(0, 9, 4), 10);
        CHECK.due("the day ahead of the undoing", pool.where(0, 9, 6), 10);
        CHECK.due("the day of the undoing", pool.where(0, 9, 7), 0);
        CHECK.due("day 1,000", pool.where(0, 9, 1000), 0);
        pool.move(0, 7, 11);
        pool.undo(1);
        CHECK.due("undone on the day of the telling: never known", pool.where(0, 9, 7), 0);
        CHECK.due("two are undone", pool.count(12), 2);
        CHECK.due("it is undone", pool.undo(1), false);
        CHECK.due("two still", pool.count(12), 2);
        CHECK.due("the day of it stays", pool.told(0, 14), 7);
        pool.day(8);
        CHECK.due("it is undone, on a later day", pool.undo(0), false);
        CHECK.due("the day of it stays", pool.told(0, 14), 7);
    }

    /** "of DAYS up to d, by DAYS, of one DAY as they were told" */
    private static void historyByDays() {
        LinenPool pool = pool();
        pool.day(9);
        pool.move(0, 5, 1);
        pool.move(0, 5, 2);
        pool.move(0, 4, 10);
        pool.move(0, 6, 3);
        pool.move(0, 5, 11);
        CHECK.due("nothing yet", pool.where(0, 3, 9), 0);
        CHECK.due("told third, first by days", pool.where(0, 4, 9), 10);
        CHECK.due("of one day the last that was told", pool.where(0, 5, 9), 11);
        CHECK.due("its day", pool.since(0, 5, 9), 5);
        CHECK.due("told fourth, last by days", pool.where(0, 6, 9), 3);
        pool.undo(4);
        CHECK.due("the one ahead of it", pool.where(0, 5, 9), 2);
        pool.undo(1);
        CHECK.due("the first of that day", pool.where(0, 5, 9), 1);
        pool.undo(0);
        CHECK.due("the day ahead", pool.where(0, 5, 9), 10);
    }

    /** "STOCK without one; SINCE: the DAY of that MOVE, else that on which it came" */
    private static void stockWithoutAMove() {
        LinenPool pool = new LinenPool();
        pool.sort(10, 0, 5, 20, 100);
        pool.day(3);
        pool.sheet(0, 0);
        pool.day(8);
        CHECK.due("in stock", pool.where(0, 8, 8), 0);
        CHECK.due("since it came", pool.since(0, 8, 8), 3);
        pool.move(0, 6, 0);
        CHECK.due("in stock by a move", pool.where(0, 8, 8), 0);
        CHECK.due("since that day", pool.since(0, 6, 8), 6);
        CHECK.due("not ahead", pool.since(0, 5, 8), 3);
        pool.undo(0);
        CHECK.due("since it came again", pool.since(0, 8, 8), 3);
    }

    /** "(It must have come by both, d and k.)" */
    private static void comeByBoth() {
        LinenPool pool = pool();
        pool.day(5);
        pool.sheet(0, 0);
        pool.day(6);
        int[][] days = {{5, 5, 1}, {5, 4, 0}, {4, 5, 0}, {4, 4, 0}, {6, 5, 1}, {5, 6, 1}, {1000, 5, 1}, {5, 1000, 1}};
        for (int[] one : days) {
            String call = "by " + one[0] + " and " + one[1];
            int none = one[2] - 1;
            CHECK.due("where " + call, pool.where(2, one[0], one[1]), none);
            CHECK.due("since " + call, pool.since(2, one[0], one[1]), one[2] == 1 ? 5 : -1);
            CHECK.due("washes " + call, pool.washes(2, one[0], one[1]), none);
            CHECK.due("nights " + call, pool.nights(2, 0, one[0], one[1]), none);
            CHECK.due("misses " + call, pool.misses(2, one[0], one[1]), none);
            CHECK.due("doubt " + call, pool.doubt(2, one[0], one[1]), none);
            CHECK.due("many " + call, pool.many(0, 0, one[0], one[1]), 1 + one[2]);
        }
    }

    /** "how many MOVES of HISTORY go into STOCK and come right behind one into WASH" */
    private static void washesRightBehind() {
        int[][] runs = {{0, 0}, {0, 1, 0}, {0, 2}, {1, 2, 0}, {1, 2, 0, 0}, {1, 2, 2, 0}, {0, 2, 1, 0}, {0, 2, 10, 0},
            {2, 2, 0, 2, 0}, {1, 0, 2, 0}, {0, 2, 3, 0}, {0, 2, 4, 0}, {0, 2, 11}, {3, 2, 0, 2, 0, 1, 2, 0}};
        for (int[] run : runs) {
            LinenPool pool = pool();
            for (int i = 1; i < run.length; i++) {
                pool.move(0, 0, run[i]);
            }
            CHECK.due("washes of " + java.util.Arrays.toString(run), pool.washes(0, 0, 0), run[0]);
        }
        LinenPool pool = pool();
        pool.day(9);
        pool.move(0, 3, 2);
        pool.move(0, 6, 0);
        CHECK.due("the day ahead of STOCK", pool.washes(0, 5, 9), 0);
        CHECK.due("the day of it", pool.washes(0, 6, 9), 1);
        CHECK.due("not known yet", pool.washes(0, 6, 8), 0);
        pool.move(0, 4, 1);
        CHECK.due("one comes between", pool.washes(0, 6, 9), 0);
        pool.undo(0);
        pool.undo(2);
        CHECK.due("without the one into WASH", pool.washes(0, 6, 9), 0);
    }

    /** "as how many DAYS up to d ended it was there" */
    private static void nightsEnded() {
        LinenPool pool = pool();
        pool.day(9);
        pool.move(0, 4, 10);
        CHECK.due("the day ahead", pool.nights(0, 0, 3, 9), 0);
        CHECK.due("the day of the move", pool.nights(0, 0, 4, 9), 1);
        CHECK.due("the next", pool.nights(0, 0, 5, 9), 2);
        pool.move(0, 6, 1);
        CHECK.due("the day on which it left", pool.nights(0, 0, 6, 9), 2);
        CHECK.due("and later", pool.nights(0, 0, 1000, 9), 2);
        pool.move(0, 7, 10);
        pool.move(0, 7, 11);
        CHECK.due("there and away on one day", pool.nights(0, 0, 7, 9), 2);
        CHECK.due("at the other one by the end", pool.nights(0, 1, 7, 9), 1);
        pool.move(0, 7, 10);
        CHECK.due("back by the end", pool.nights(0, 0, 7, 9), 3);
        CHECK.due("not at the other one", pool.nights(0, 1, 7, 9), 0);
        pool.move(1, 0, 10);
        CHECK.due("from day 0 on", pool.nights(1, 0, 0, 9), 1);
        CHECK.due("to day 1,000", pool.nights(1, 0, 1000, 9), 1001);
        CHECK.due("not known", pool.nights(1, 0, 1000, 8), 0);
    }

    /** "up to 60, KNOWN as told": HEATS */
    private static void heatsUpTo60() {
        LinenPool pool = pool();
        pool.day(3);
        for (int i = 1; i < 60; i++) {
            CHECK.due("heat " + i, pool.heat(0, 1, 1), i);
        }
        CHECK.due("heat 60", pool.heat(1, 1, 1), 60);
        CHECK.due("heat 61", pool.heat(2, 1, 1), -1);
        CHECK.due("60 are there", pool.count(10), 60);
        CHECK.due("the 60th proves", pool.proven(1, 3), 1);
        CHECK.due("the 61st doesn't", pool.proven(2, 3), 0);
        CHECK.due("known from its telling on", pool.proven(1, 2), 0);
        CHECK.due("and later", pool.proven(1, 4), 1);
    }

    private static void proven(LinenPool pool, int degrees, int minutes, int due) {
        int day = pool.count(0) + 1;
        pool.day(day);
        pool.heat(day, degrees, minutes);
        CHECK.due("proven by " + degrees + " for " + minutes, pool.proven(day, day), due);
    }

    /** "one HEAT of it has at least the degrees and the minutes that the last "heat" ... tells (0 and 0 without)" */
    private static void provenAtLeast() {
        LinenPool pool = pool();
        proven(pool, 0, 0, 1);
        Texts.take(pool, "heat 120 for 200;heat 70 for 10;");
        proven(pool, 70, 10, 1);
        proven(pool, 69, 10, 0);
        proven(pool, 70, 9, 0);
        proven(pool, 71, 11, 1);
        proven(pool, 120, 200, 1);
        proven(pool, 120, 9, 0);
        proven(pool, 69, 200, 0);
        Texts.take(pool, "heat 120 for 200;");
        proven(pool, 120, 200, 1);
        proven(pool, 119, 200, 0);
        Texts.take(pool, "heat 121 for 0;");
        proven(pool, 120, 200, 0);
        Texts.take(pool, "heat 0 for 999999999;");
        proven(pool, 120, 200, 0);
        Texts.take(pool, "heat 0 for 0;");
        proven(pool, 0, 0, 1);
        Texts.take(pool, "");
        proven(pool, 0, 0, 1);
        CHECK.due("by terms without a heat, no heat", pool.proven(pool.count(0) - 1, 1000), 1);
        CHECK.due("no heat at all", pool.proven(0, 1000), 0);
    }

    private static void provenByOneHeat() {
        LinenPool pool = pool();
        Texts.take(pool, "heat 60 for 10;");
        pool.day(2);
        pool.heat(2, 60, 9);
        pool.heat(2, 59, 10);
        pool.heat(1, 60, 10);
        CHECK.due("two heats that have one each", pool.proven(2, 2), 0);
        CHECK.due("that of the day ahead is its own", pool.proven(1, 2), 1);
        pool.day(3);
        pool.heat(2, 60, 10);
        CHECK.due("one told later", pool.proven(2, 2), 0);
        CHECK.due("known then", pool.proven(2, 3), 1);
        Texts.take(pool, "heat 99 for 99;");
        CHECK.due("terms of a later day", pool.proven(2, 3), 1);
        pool.heat(3, 98, 99);
        CHECK.due("in force on the day on which they're taken", pool.proven(3, 3), 0);
    }

    /** "whose HISTORY has a MOVE into WASH, the last of a DAY that isn't PROVEN" */
    private static void unsafeByTheLast() {
        LinenPool pool = pool();
        pool.day(8);
        CHECK.due("never washed", pool.unsafe(0, 8), -1);
        pool.move(0, 3, 2);
        pool.move(0, 3, 0);
        CHECK.due("not proven", pool.unsafe(0, 8), 0);
        CHECK.due("no second", pool.unsafe(1, 8), -1);
        pool.heat(3, 0, 0);
        CHECK.due("proven", pool.unsafe(0, 8), -1);
        pool.move(0, 5, 2);
        pool.move(0, 5, 0);
        CHECK.due("the last isn't", pool.unsafe(0, 8), 0);
        pool.undo(2);
        CHECK.due("the last that is known is", pool.unsafe(0, 8), -1);
        pool.move(0, 2, 2);
        CHECK.due("told last, but ahead by days", pool.unsafe(0, 8), -1);
        pool.move(1, 8, 2);
        pool.move(1, 8, 0);
        CHECK.due("of today", pool.unsafe(0, 8), 1);
        CHECK.due("as known ahead", pool.unsafe(0, 7), -1);
    }

    /** "a SHEET in STOCK or at a HOUSE" */
    private static void unsafeInStockOrAtAHouse() {
        int[][] places = {{0, 0}, {1, -1}, {2, -1}, {3, -1}, {4, -1}, {10, 0}, {11, 0}};
        for (int[] place : places) {
            LinenPool pool = pool();
            pool.move(0, 0, 2);
            pool.move(0, 0, place[0]);
            CHECK.due("unsafe at " + place[0], pool.unsafe(0, 0), place[1]);
        }
        LinenPool pool = pool();
        for (int i = 0; i < 4; i++) {
            pool.sheet(0, 0);
            pool.move(2 + i, 0, 2);
            pool.move(2 + i, 0, i == 1 ? 1 : 0);
        }
        int[] due = {2, 4, 5, -1};
        for (int k = 0; k < due.length; k++) {
            CHECK.due("unsafe " + k, pool.unsafe(k, 0), due[k]);
        }
    }

    /** "BAGS, up to 60: of a HOUSE on a DAY up to TODAY, KNOWN as told" */
    private static void bagsUpTo60() {
        LinenPool pool = pool();
        pool.move(0, 0, 10);
        pool.day(3);
        for (int i = 0; i < 58; i++) {
            CHECK.due("bag " + i, pool.bag(1, 1), i);
        }
        CHECK.due("no bag 58 yet", pool.read(58, 1), -1);
        CHECK.due("bag 58", pool.bag(0, 1), 58);
        CHECK.due("bag 59", pool.bag(0, 2), 59);
        CHECK.due("bag 60", pool.bag(0, 3), -1);
        CHECK.due("60 are there", pool.count(5), 60);
        CHECK.due("two miss it, not three", pool.misses(0, 3, 3), 2);
        CHECK.due("not known the day ahead", pool.misses(0, 3, 2), 0);
        CHECK.due("none is read in a 61st", pool.read(60, 1), -1);
        CHECK.due("read in the 60th", pool.read(59, 0), 1);
        CHECK.due("on its day", pool.told(1, 11), 2);
        CHECK.due("told today", pool.told(1, 13), 3);
        CHECK.due("to SOILED", pool.where(0, 2, 3), 1);
    }

    /** "Refused, doing nothing, at the first of: NONE none such; -2 it was; -3 it came behind that DAY; -4 600" */
    private static void readRefusals() {
        LinenPool pool = pool();
        pool.day(5);
        pool.sheet(0, 0);
        pool.bag(0, 4);
        pool.bag(0, 5);
        CHECK.due("no bag, and a sheet that came behind", pool.read(2, 2), -1);
        CHECK.due("no bag below 0", pool.read(-1, 0), -1);
        CHECK.due("no sheet", pool.read(0, 3), -1);
        CHECK.due("it came the day behind", pool.read(0, 2), -3);
        CHECK.due("it came that day", pool.read(1, 2), 0);
        CHECK.due("it was", pool.read(1, 2), -2);
        CHECK.due("undone", pool.undo(0), true);
        CHECK.due("it may be again", pool.read(1, 2), 1);
        CHECK.due("it was again", pool.read(1, 2), -2);
        CHECK.due("two moves in all", pool.count(4), 2);
        CHECK.due("a move to SOILED is no reading", pool.move(0, 4, 1), 2);
        CHECK.due("so it may be read", pool.read(0, 0), 3);
        // 600 MOVES are more than the 512 calls of which the document speaks: the order holds there too
        for (int i = 4; i < 600; i++) {
            pool.move(1, 5, 1);
        }
        CHECK.due("600, none such", pool.read(0, 3), -1);
        CHECK.due("600, it was", pool.read(1, 2), -2);
        CHECK.due("600, it came behind", pool.read(0, 2), -3);
        CHECK.due("600", pool.read(0, 1), -4);
        CHECK.due("nothing was told", pool.count(4), 600);
    }

    /** "of DAYS behind SINCE, up to d" */
    private static void missesBehindSince() {
        LinenPool pool = pool();
        pool.day(9);
        pool.move(0, 3, 10);
        for (int day = 2; day <= 6; day++) {
            pool.bag(0, day);
        }
        int[] due = {0, 0, 0, 0, 1, 2, 3, 3};
        for (int day = 0; day < due.length; day++) {
            CHECK.due("misses up to " + day, pool.misses(0, day, 9), due[day]);
        }
        pool.move(0, 5, 10);
        CHECK.due("there anew: behind that day", pool.misses(0, 6, 9), 1);
        CHECK.due("on that day none", pool.misses(0, 5, 9), 0);
        CHECK.due("the day ahead as ever", pool.misses(0, 4, 9), 1);
        pool.move(1, 0, 11);
        CHECK.due("bags of another house", pool.misses(1, 9, 9), 0);
        pool.bag(1, 0);
        CHECK.due("one of the day of the move", pool.misses(1, 9, 9), 0);
        pool.bag(1, 1);
        CHECK.due("one of the next", pool.misses(1, 9, 9), 1);
        pool.move(1, 8, 1);
        CHECK.due("no longer there", pool.misses(1, 8, 9), 0);
        CHECK.due("there the day ahead", pool.misses(1, 7, 9), 1);
    }

    /** "(12 at most)": with 14 of 16 missed, 16/14 is 4.34 to the 11, 4.96 to the 12, 5.67 to the 13 */
    private static void missesTwelveAtMost() {
        LinenPool pool = pool();
        pool.lot(0, 14);
        pool.beyond(5);
        pool.move(0, 0, 10);
        pool.day(20);
        int[] due = {0, 1, 2, 3, 4, 5, 6, 7, 8, 9, 10, 11, 12, 12, 12};
        for (int bags = 0; bags < due.length; bags++) {
            CHECK.due(bags + " bags", pool.misses(0, 20, 20), due[bags]);
            CHECK.due(bags + " bags, 5 is never less", pool.doubt(0, 20, 20), 0);
            pool.beyond(4);
            CHECK.due(bags + " bags, 4 is from 11 on", pool.doubt(0, 20, 20), bags >= 11 ? 1 : 0);
            pool.beyond(5);
            pool.bag(0, 1 + bags);
        }
    }

    /** "MISSED 0 to 15 times of 16 (1 at first)": one miss, 15 and 16 times 1 against 16 */
    private static void missedAtFirst() {
        LinenPool pool = new LinenPool();
        pool.sort(10, 0, 5, 20, 100);
        pool.house(0, 0, 0, 0);
        for (int lot = 0; lot < 4; lot++) {
            pool.sheet(0, lot);
            pool.move(lot, 0, 10);
        }
        pool.day(1);
        pool.bag(0, 1);
        for (int lot = 0; lot < 4; lot++) {
            pool.beyond(15);
            CHECK.due("lot " + lot + ": 15 is less than 16", pool.doubt(lot, 1, 1), 1);
            pool.beyond(16);
            CHECK.due("lot " + lot + ": 16 isn't", pool.doubt(lot, 1, 1), 0);
        }
        pool.lot(2, 0);
        CHECK.due("never missed, one miss", pool.doubt(2, 1, 1), 1);
        CHECK.due("never missed, no miss: 1 times 16 isn't less than 1", pool.doubt(2, 0, 1), 0);
        CHECK.due("other lots stay", pool.doubt(1, 1, 1), 0);
        CHECK.due("one is lost", pool.lost(0, 0, 1, 1), 1);
        pool.lot(2, 2);
        CHECK.due("told anew", pool.doubt(2, 1, 1), 0);
    }

    /** "BEYOND (2 to 10,000; 100 at first)": 16/9 is 99.8 to the 8, 16/5 is 104.9 to the 4 */
    private static void beyondAtFirst() {
        LinenPool pool = pool();
        pool.lot(0, 9);
        pool.lot(1, 5);
        pool.move(0, 0, 10);
        pool.move(1, 0, 11);
        pool.day(1);
        for (int i = 0; i < 8; i++) {
            pool.bag(0, 1);
            if (i < 4) {
                pool.bag(1, 1);
            }
        }
        CHECK.due("eight and four misses", pool.misses(0, 1, 1) * 10 + pool.misses(1, 1, 1), 84);
        CHECK.due("99.8 isn't beyond 100", pool.doubt(0, 1, 1), 0);
        CHECK.due("104.9 is", pool.doubt(1, 1, 1), 1);
        pool.beyond(99);
        CHECK.due("99.8 is beyond 99", pool.doubt(0, 1, 1), 1);
        pool.beyond(105);
        CHECK.due("104.9 isn't beyond 105", pool.doubt(1, 1, 1), 0);
        CHECK.due("refused", pool.beyond(1), false);
        CHECK.due("stays 105", pool.doubt(1, 1, 1), 0);
        CHECK.due("refused", pool.beyond(10_001), false);
        pool.beyond(2);
        CHECK.due("2", pool.doubt(0, 1, 1), 1);
    }

    /** "MISSED to the power of MISSES times BEYOND is less than 16 to that power" */
    private static void doubtIsLess() {
        // missed, misses, the least BEYOND that is no longer less
        int[][] edges = {{8, 1, 2}, {4, 1, 4}, {2, 1, 8}, {1, 1, 16}, {8, 2, 4}, {4, 2, 16}, {2, 2, 64}, {1, 2, 256},
            {4, 3, 64}, {2, 3, 512}, {1, 3, 4096}, {8, 12, 4096}, {2, 4, 4096}, {15, 12, 3}, {7, 11, 8897},
            {5, 7, 3436}, {11, 12, 90}};
        for (int[] edge : edges) {
            LinenPool pool = pool();
            pool.lot(0, edge[0]);
            pool.move(0, 0, 10);
            pool.day(1);
            for (int i = 0; i < edge[1]; i++) {
                pool.bag(0, 1);
            }
            String call = edge[0] + " to the " + edge[1] + " times ";
            pool.beyond(edge[2]);
            CHECK.due(call + edge[2], pool.doubt(0, 1, 1), 0);
            if (pool.beyond(edge[2] - 1)) {
                CHECK.due(call + (edge[2] - 1), pool.doubt(0, 1, 1), 1);
            }
        }
        LinenPool pool = pool();
        pool.lot(0, 15);
        pool.beyond(10_000);
        pool.move(0, 0, 10);
        pool.day(1);
        for (int i = 0; i < 60; i++) {
            pool.bag(0, 1);
        }
        CHECK.due("the greatest of all", pool.doubt(0, 1, 1), 0);
    }

    /** "COUNTS, up to 60" */
    private static void countsUpTo60() {
        LinenPool pool = pool();
        pool.move(0, 0, 10);
        pool.day(3);
        for (int i = 1; i < 60; i++) {
            CHECK.due("count " + i, pool.counted(0, 0, 1, 1), i);
        }
        CHECK.due("none short", pool.shortOf(0, 0, 3, 3), 0);
        CHECK.due("count 60", pool.counted(0, 1, 1, 0), 60);
        CHECK.due("count 61", pool.counted(0, 0, 2, 0), -1);
        CHECK.due("60 are there", pool.count(11), 60);
        CHECK.due("none short still", pool.shortOf(0, 0, 3, 3), 0);
    }

    /** "of those of it KNOWN by k, of DAYS up to d ... there on that DAY (as KNOWN by k)" */
    private static void shortAsKnown() {
        LinenPool pool = pool();
        pool.move(0, 0, 10);
        pool.day(5);
        pool.counted(0, 0, 3, 0);
        pool.day(7);
        CHECK.due("the day ahead of the telling", pool.shortOf(0, 0, 7, 4), 0);
        CHECK.due("the day of it", pool.shortOf(0, 0, 7, 5), 1);
        CHECK.due("the day ahead of the count's", pool.shortOf(0, 0, 2, 7), 0);
        CHECK.due("the day of it", pool.shortOf(0, 0, 3, 7), 1);
        pool.move(0, 4, 1);
        CHECK.due("gone the day behind", pool.shortOf(0, 0, 7, 7), 1);
        pool.move(0, 3, 1);
        CHECK.due("gone that day", pool.shortOf(0, 0, 7, 7), 0);
        CHECK.due("that wasn't known", pool.shortOf(0, 0, 7, 6), 1);
        CHECK.due("of another sort", pool.shortOf(0, 1, 7, 6), 0);
        CHECK.due("of another house", pool.shortOf(1, 0, 7, 6), 0);
    }

    /** "the greatest of how many were there ... less what was counted; 0 at least" */
    private static void shortOfTheGreatest() {
        LinenPool pool = pool();
        for (int i = 2; i < 7; i++) {
            pool.sheet(0, 0);
            pool.move(i, 0, 10);
        }
        CHECK.due("none counted", pool.shortOf(0, 0, 0, 0), 0);
        pool.counted(0, 0, 0, 1000);
        CHECK.due("far more counted", pool.shortOf(0, 0, 0, 0), 0);
        pool.counted(0, 0, 0, 6);
        CHECK.due("one more counted", pool.shortOf(0, 0, 0, 0), 0);
        pool.counted(0, 0, 0, 5);
        CHECK.due("as many counted", pool.shortOf(0, 0, 0, 0), 0);
        pool.counted(0, 0, 0, 4);
        CHECK.due("one less", pool.shortOf(0, 0, 0, 0), 1);
        pool.counted(0, 0, 0, 2);
        CHECK.due("the greatest", pool.shortOf(0, 0, 0, 0), 3);
        pool.counted(0, 0, 0, 3);
        CHECK.due("not the last", pool.shortOf(0, 0, 0, 0), 3);
        pool.counted(0, 0, 0, 0);
        CHECK.due("none counted of five", pool.shortOf(0, 0, 0, 0), 5);
    }
}
