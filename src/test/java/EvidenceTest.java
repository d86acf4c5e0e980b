/** Promises 13 to 25: heats, bags, misses, doubts, counts, loads. */
public final class EvidenceTest {
    private static final Check CHECK = new Check();

    public static void main(String[] args) {
        heats();
        provenByTerms();
        unsafe();
        lotsAndBeyond();
        bags();
        reads();
        misses();
        doubts();
        doubtsWithoutMisses();
        lost();
        counted();
        shortOf();
        loads();
        loadsOfMany();
        CHECK.end();
    }

    private static LinenPool pool() {
        LinenPool pool = new LinenPool();
        pool.sort(10, 0, 5, 20, 100);
        pool.sort(25, 1, 8, 10, 60);
        pool.house(1, 3, 4, 60);
        pool.house(2, 10, 0, 100);
        pool.sheet(0, 0);
        pool.sheet(0, 1);
        pool.sheet(1, 2);
        pool.day(10);
        return pool;
    }

    private static void heats() {
        LinenPool pool = pool();
        CHECK.due("13: least", pool.heat(0, 0, 0), 1);
        CHECK.due("13: most", pool.heat(10, 120, 200), 2);
        int[][] wrong = {{-1, 0, 0}, {11, 0, 0}, {1, -1, 0}, {1, 121, 0}, {1, 0, -1}, {1, 0, 201}};
        for (int[] one : wrong) {
            CHECK.due("13: not as told", pool.heat(one[0], one[1], one[2]), -1);
        }
        CHECK.due("14: proven by any heat without terms", pool.proven(0, 10), 1);
        CHECK.due("14: no heat", pool.proven(1, 10), 0);
        CHECK.due("14: not known yet", pool.proven(0, 9), 0);
        CHECK.due("14: a day to come", pool.proven(1000, 1000), 0);
        CHECK.due("14: no day", pool.proven(1001, 10), -1);
        CHECK.due("14: no day", pool.proven(-1, 10), -1);
        CHECK.due("14: no known day", pool.proven(0, 1001), -1);
        CHECK.due("14: no known day", pool.proven(0, -1), -1);
        CHECK.due("13: refused ones do nothing", pool.count(10), 2);
        for (int i = 3; i <= 60; i++) {
            CHECK.due("13: heat " + i, pool.heat(1, 1, 1), i);
        }
        CHECK.due("13: full", pool.heat(2, 1, 1), -1);
        CHECK.due("13: full does nothing", pool.proven(2, 10), 0);
    }

    private static void provenByTerms() {
        LinenPool pool = pool();
        pool.heat(10, 60, 9);
        pool.heat(10, 59, 10);
        CHECK.due("14: without terms", pool.proven(10, 10), 1);
        Texts.take(pool, "heat 20 for 20;heat 60 for 10;");
        CHECK.due("14: no heat has both", pool.proven(10, 10), 0);
        pool.heat(10, 60, 10);
        CHECK.due("14: the last of the terms", pool.proven(10, 10), 1);
        pool.heat(9, 1, 1);
        CHECK.due("14: terms aren't in force ahead", pool.proven(9, 10), 1);
        pool.day(12);
        pool.heat(11, 50, 50);
        CHECK.due("14: terms are in force on later days", pool.proven(11, 12), 0);
        Texts.take(pool, "retire=1;");
        pool.heat(12, 0, 0);
        CHECK.due("14: terms without a heat", pool.proven(12, 12), 1);
        CHECK.due("14: those taken last by the day", pool.proven(11, 12), 0);
    }

    private static void unsafe() {
        LinenPool pool = pool();
        pool.move(0, 3, 2);
        pool.move(0, 4, 0);
        pool.move(1, 3, 2);
        pool.move(1, 5, 10);
        pool.move(2, 3, 2);
        pool.move(2, 5, 2);
        CHECK.due("15: in STOCK", pool.unsafe(0, 10), 0);
        CHECK.due("15: at a HOUSE", pool.unsafe(1, 10), 1);
        CHECK.due("15: not in WASH", pool.unsafe(2, 10), -1);
        CHECK.due("15: k below 0", pool.unsafe(-1, 10), -1);
        CHECK.due("15: as known", pool.unsafe(0, 9), -1);
        CHECK.due("15: no day", pool.unsafe(0, 1001), -1);
        CHECK.due("15: no day", pool.unsafe(0, -1), -1);
        pool.move(2, 6, 0);
        pool.heat(3, 1, 1);
        CHECK.due("15: the last into WASH counts", pool.unsafe(0, 10), 2);
        CHECK.due("15: that one alone", pool.unsafe(1, 10), -1);
        pool.heat(5, 1, 1);
        CHECK.due("15: all proven", pool.unsafe(0, 10), -1);
        pool.day(11);
        pool.move(0, 11, 3);
        pool.move(0, 11, 2);
        CHECK.due("15: up to TODAY", pool.unsafe(0, 11), -1);
        pool.move(0, 11, 11);
        CHECK.due("15: unproven again", pool.unsafe(0, 11), 0);
        pool.move(0, 11, 3);
        CHECK.due("15: RETIRED", pool.unsafe(0, 11), -1);
    }

    private static void lotsAndBeyond() {
        LinenPool pool = pool();
        CHECK.due("16: least", pool.lot(0, 0), true);
        CHECK.due("16: most", pool.lot(3, 15), true);
        CHECK.due("16: lot -1", pool.lot(-1, 1), false);
        CHECK.due("16: lot 4", pool.lot(4, 1), false);
        CHECK.due("16: missed -1", pool.lot(0, -1), false);
        CHECK.due("16: missed 16", pool.lot(0, 16), false);
        CHECK.due("17: least", pool.beyond(2), true);
        CHECK.due("17: most", pool.beyond(10_000), true);
        CHECK.due("17: 1", pool.beyond(1), false);
        CHECK.due("17: 10,001", pool.beyond(10_001), false);
        CHECK.due("17: below 0", pool.beyond(-5), false);
    }

    private static void bags() {
        LinenPool pool = pool();
        CHECK.due("18: DAY 0", pool.bag(0, 0), 0);
        CHECK.due("18: TODAY", pool.bag(1, 10), 1);
        CHECK.due("18: behind TODAY", pool.bag(0, 11), -1);
        CHECK.due("18: below 0", pool.bag(0, -1), -1);
        CHECK.due("18: no house", pool.bag(2, 5), -1);
        CHECK.due("18: no house", pool.bag(-1, 5), -1);
        CHECK.due("18: refused ones do nothing", pool.count(5), 2);
        for (int i = 2; i < 60; i++) {
            CHECK.due("18: bag " + i, pool.bag(0, 5), i);
        }
        CHECK.due("18: full", pool.bag(0, 5), -1);
        CHECK.due("18: full does nothing", pool.count(5), 60);
    }

    private static void reads() {
        LinenPool pool = pool();
        pool.sheet(0, 0);
        pool.bag(0, 7);
        pool.bag(0, 10);
        CHECK.due("19: no bag", pool.read(2, 0), -1);
        CHECK.due("19: no bag", pool.read(-1, 0), -1);
        CHECK.due("19: no sheet", pool.read(0, 4), -1);
        CHECK.due("19: no sheet", pool.read(0, -1), -1);
        CHECK.due("19: it came behind", pool.read(0, 3), -3);
        CHECK.due("19: it came that day", pool.read(1, 3), 0);
        CHECK.due("19: refused ones do nothing", pool.count(4), 1);
        CHECK.due("19: wherever it is", pool.read(0, 0), 1);
        CHECK.due("19: to SOILED on its day", pool.where(0, 7, 10), 1);
        CHECK.due("19: not ahead", pool.where(0, 6, 10), 0);
        CHECK.due("19: told TODAY", pool.where(0, 7, 9), 0);
        CHECK.due("19: it was", pool.read(0, 0), -2);
        CHECK.due("19: in another bag", pool.read(1, 0), 2);
        CHECK.due("19: another sheet", pool.read(0, 1), 3);
        pool.undo(1);
        CHECK.due("19: that move is undone", pool.read(0, 0), 4);
        CHECK.due("19: it was again", pool.read(0, 0), -2);
    }

    private static void misses() {
        LinenPool pool = pool();
        pool.move(0, 3, 10);
        pool.bag(0, 2);
        pool.bag(0, 3);
        pool.bag(0, 4);
        pool.bag(1, 5);
        pool.bag(0, 10);
        CHECK.due("20: behind SINCE, up to the day", pool.misses(0, 9, 10), 1);
        CHECK.due("20: that day too", pool.misses(0, 10, 10), 2);
        CHECK.due("20: in STOCK", pool.misses(0, 2, 10), 0);
        CHECK.due("20: not known", pool.misses(0, 10, 9), 0);
        CHECK.due("20: no sheet", pool.misses(3, 10, 10), -1);
        CHECK.due("20: no day", pool.misses(0, 1001, 10), -1);
        pool.day(11);
        pool.sheet(0, 0);
        CHECK.due("20: not come", pool.misses(3, 10, 11), -1);
        CHECK.due("20: not come by the known one", pool.misses(3, 11, 10), -1);
        pool.move(0, 11, 10);
        CHECK.due("20: a new stay", pool.misses(0, 11, 11), 0);
        CHECK.due("20: a bag known later", pool.misses(0, 10, 10), 2);
        for (int i = 0; i < 14; i++) {
            pool.bag(1, 11);
        }
        pool.move(1, 4, 11);
        CHECK.due("20: 12 at most", pool.misses(1, 11, 11), 12);
        CHECK.due("20: a stay that isn't known", pool.misses(1, 11, 10), 0);
    }

    private static void doubts() {
        LinenPool pool = pool();
        pool.move(0, 0, 10);
        pool.move(1, 0, 10);
        pool.bag(0, 1);
        pool.lot(0, 8);
        pool.lot(1, 7);
        pool.beyond(2);
        CHECK.due("21: 8 times 2 is not less than 16", pool.doubt(0, 10, 10), 0);
        CHECK.due("21: 7 times 2 is", pool.doubt(1, 10, 10), 1);
        CHECK.due("21: ahead of the bag", pool.doubt(1, 0, 10), 0);
        CHECK.due("21: no sheet", pool.doubt(9, 10, 10), -1);
        CHECK.due("21: no day", pool.doubt(0, 10, 1001), -1);
        for (int i = 0; i < 11; i++) {
            pool.bag(0, 2);
        }
        pool.lot(0, 15);
        // 16 to the 12 by 15 to the 12 is 2.169
        CHECK.due("21: 2 is below it", pool.doubt(0, 10, 10), 1);
        pool.beyond(3);
        CHECK.due("21: 3 is above it", pool.doubt(0, 10, 10), 0);
        pool.lot(0, 7);
        pool.beyond(10_000);
        // 16 to the 12 by 7 to the 12 is 20,336
        CHECK.due("21: 10,000 is below that", pool.doubt(0, 10, 10), 1);
        pool.lot(0, 8);
        CHECK.due("21: 8: 4,096 is below 10,000", pool.doubt(0, 10, 10), 0);
    }

    private static void doubtsWithoutMisses() {
        LinenPool pool = pool();
        pool.lot(0, 0);
        pool.move(0, 0, 10);
        CHECK.due("21: never missed, no bag", pool.doubt(0, 10, 10), 0);
        pool.bag(0, 1);
        CHECK.due("21: never missed, one bag", pool.doubt(0, 10, 10), 1);
        pool.move(0, 2, 1);
        CHECK.due("21: at no house", pool.doubt(0, 10, 10), 0);
        pool.move(1, 0, 10);
        CHECK.due("21: one miss of 1 in 16 at first", pool.doubt(1, 10, 10), 0);
        pool.bag(0, 2);
        CHECK.due("21: two", pool.doubt(1, 10, 10), 1);
        pool.bag(0, 3);
        pool.bag(0, 3);
        pool.lot(1, 5);
        // 16 to the 4 by 5 to the 4 is 104.9
        CHECK.due("21: 100 at first is less", pool.doubt(1, 10, 10), 1);
        for (int i = 0; i < 4; i++) {
            pool.bag(0, 4);
        }
        pool.lot(1, 9);
        // 16 to the 8 by 9 to the 8 is 99.8
        CHECK.due("21: 100 at first is not less", pool.doubt(1, 10, 10), 0);
        pool.beyond(99);
        CHECK.due("21: 99 is", pool.doubt(1, 10, 10), 1);
        pool = pool();
        pool.move(1, 0, 10);
        pool.bag(0, 1);
        pool.bag(0, 2);
        pool.beyond(256);
        CHECK.due("21: 256 times 1 is not less than 256", pool.doubt(1, 10, 10), 0);
        pool.beyond(255);
        CHECK.due("21: 255 is", pool.doubt(1, 10, 10), 1);
    }

    private static void lost() {
        LinenPool pool = pool();
        pool.beyond(2);
        for (int sheet = 0; sheet < 3; sheet++) {
            pool.move(sheet, 1, 10);
        }
        pool.bag(0, 2);
        CHECK.due("22: of a sort", pool.lost(0, 0, 10, 10), 2);
        CHECK.due("22: of the other", pool.lost(0, 1, 10, 10), 1);
        CHECK.due("22: at the other house", pool.lost(1, 0, 10, 10), 0);
        CHECK.due("22: ahead of the bag", pool.lost(0, 0, 1, 10), 0);
        CHECK.due("22: not known", pool.lost(0, 0, 10, 9), 0);
        pool.read(0, 0);
        CHECK.due("22: one is read", pool.lost(0, 0, 10, 10), 1);
        pool.move(1, 3, 11);
        pool.bag(1, 4);
        CHECK.due("22: at the other house then", pool.lost(1, 0, 10, 10), 1);
        CHECK.due("22: no house", pool.lost(2, 0, 10, 10), -1);
        CHECK.due("22: no sort", pool.lost(0, 2, 10, 10), -1);
        CHECK.due("22: no day", pool.lost(0, 0, 1001, 10), -1);
        CHECK.due("22: no known day", pool.lost(0, 0, 10, -1), -1);
    }

    private static void counted() {
        LinenPool pool = pool();
        CHECK.due("23: least", pool.counted(0, 0, 0, 0), 1);
        CHECK.due("23: most", pool.counted(1, 1, 10, 1000), 2);
        int[][] wrong = {{2, 0, 1, 1}, {-1, 0, 1, 1}, {0, 2, 1, 1}, {0, -1, 1, 1}, {0, 0, 11, 1}, {0, 0, -1, 1},
            {0, 0, 1, -1}, {0, 0, 1, 1001}};
        for (int[] one : wrong) {
            CHECK.due("23: not as told", pool.counted(one[0], one[1], one[2], one[3]), -1);
        }
        CHECK.due("23: refused ones do nothing", pool.count(11), 2);
        for (int i = 3; i <= 60; i++) {
            CHECK.due("23: count " + i, pool.counted(0, 0, 1, 1), i);
        }
        CHECK.due("23: full", pool.counted(0, 0, 1, 1), -1);
        CHECK.due("23: full does nothing", pool.count(11), 60);
    }

    private static void shortOf() {
        LinenPool pool = pool();
        pool.move(0, 1, 10);
        pool.move(1, 3, 10);
        pool.move(0, 6, 1);
        CHECK.due("24: no counts", pool.shortOf(0, 0, 10, 10), 0);
        pool.counted(0, 0, 1, 0);
        CHECK.due("24: the first count", pool.shortOf(0, 0, 10, 10), 1);
        pool = pool();
        pool.move(0, 1, 10);
        pool.move(1, 3, 10);
        pool.move(0, 6, 1);
        pool.counted(0, 0, 2, 1);
        CHECK.due("24: all there", pool.shortOf(0, 0, 10, 10), 0);
        pool.counted(0, 0, 5, 0);
        CHECK.due("24: two missing", pool.shortOf(0, 0, 10, 10), 2);
        pool.counted(0, 0, 7, 0);
        CHECK.due("24: the greatest stands", pool.shortOf(0, 0, 10, 10), 2);
        CHECK.due("24: up to a day", pool.shortOf(0, 0, 4, 10), 0);
        CHECK.due("24: that day too", pool.shortOf(0, 0, 5, 10), 2);
        pool.counted(0, 1, 5, 3);
        CHECK.due("24: more were counted", pool.shortOf(0, 1, 10, 10), 0);
        pool.move(2, 1, 11);
        pool.counted(1, 1, 5, 0);
        CHECK.due("24: at the other house", pool.shortOf(1, 1, 10, 10), 1);
        CHECK.due("24: not known", pool.shortOf(0, 0, 10, 9), 0);
        pool.day(11);
        pool.undo(0);
        CHECK.due("24: who was there as known", pool.shortOf(0, 0, 10, 11), 1);
        CHECK.due("24: as known earlier", pool.shortOf(0, 0, 10, 10), 2);
        CHECK.due("24: no house", pool.shortOf(2, 0, 10, 10), -1);
        CHECK.due("24: no sort", pool.shortOf(0, 2, 10, 10), -1);
        CHECK.due("24: no day", pool.shortOf(0, 0, 1001, 10), -1);
        CHECK.due("24: no known day", pool.shortOf(0, 0, 10, 1001), -1);
    }

    private static void loads() {
        LinenPool pool = pool();
        CHECK.due("25: nothing there, nothing weighed", pool.load(0, 0, 0, 0, -1), 1);
        CHECK.due("25: nothing there", pool.load(0, 10, 0, 0, 0), -1);
        for (int sheet = 0; sheet < 3; sheet++) {
            pool.move(sheet, 1, 10);
        }
        CHECK.due("25: 25 or 20", pool.load(0, 25, 0, 25, -1), 2);
        CHECK.due("25: least of sort 0", pool.load(0, 25, 0, 25, 0), 0);
        CHECK.due("25: greatest of sort 0", pool.load(0, 25, 0, 25, 1), 2);
        CHECK.due("25: least of sort 1", pool.load(0, 25, 0, 25, 2), 0);
        CHECK.due("25: greatest of sort 1", pool.load(0, 25, 0, 25, 3), 1);
        // 21 at 1 to 5 hundredths: from 20 to 20.79
        CHECK.due("25: cut up and cut", pool.load(0, 21, 1, 5, -1), 1);
        // 21 at 1 to 4 hundredths: from 20.19, cut up to 21, to 20
        CHECK.due("25: none within", pool.load(0, 21, 1, 4, 0), -1);
        CHECK.due("25: all ways of all", pool.load(0, 100, 0, 200, -1), 2);
        CHECK.due("25: none at the other house", pool.load(1, 25, 0, 25, 0), -1);
        int[][] wrong = {{2, 0, 0, 0, 0}, {-1, 0, 0, 0, 0}, {0, -1, 0, 0, 0}, {0, 9001, 0, 0, 0}, {0, 1, -1, 0, 0},
            {0, 1, 1, 0, 0}, {0, 1, 0, 201, 0}, {0, 1, 201, 201, 0}, {0, 1, 0, 0, 4}, {0, 1, 0, 0, -2}};
        for (int[] one : wrong) {
            CHECK.due("25: not as told", pool.load(one[0], one[1], one[2], one[3], one[4]), -2);
        }
        CHECK.due("25: most", pool.load(0, 9000, 200, 200, 0), -1);
        // 130 at 100 to 160 hundredths: from 50 to 65
        CHECK.due("25: much damp, none", pool.load(0, 130, 100, 160, 0), -1);
        // 90 at 100 to 125 hundredths: from 40 to 45
        CHECK.due("25: much damp", pool.load(0, 90, 100, 125, -1), 1);
        // 46 at 3 to 3 hundredths: from 44.66, cut up to 45, to 44
        CHECK.due("25: no whole one within", pool.load(0, 46, 3, 3, 0), -1);
        CHECK.due("25: least of sort 1 is what the rest can't be", pool.load(0, 45, 0, 0, 2), 1);
        CHECK.due("25: least of sort 0", pool.load(0, 45, 0, 0, 0), 2);
        CHECK.due("25: greatest of sort 0", pool.load(0, 35, 0, 0, 1), 1);
        pool.move(1, 2, 11);
        CHECK.due("25: at the other house", pool.load(1, 10, 0, 0, 1), 1);
        pool.move(1, 2, 10);
        pool.undo(2);
        CHECK.due("25: as many as are there NOW", pool.load(0, 25, 0, 25, 3), 0);
    }

    /** 120 sheets of six sorts: 21 to the 6 ways in all. */
    private static void loadsOfMany() {
        LinenPool pool = new LinenPool();
        pool.house(0, 0, 0, 0);
        for (int i = 0; i < 6; i++) {
            pool.sort(i == 5 ? 60 : 10, 0, 1, 1, 1);
        }
        for (int i = 0; i < 120; i++) {
            pool.sheet(i % 6, 0);
            pool.move(i, 0, 10);
        }
        CHECK.due("25: 1,000,000 at most", pool.load(0, 3000, 0, 200, -1), 1_000_000);
        // 2,200 in all: every piece
        CHECK.due("25: all of them", pool.load(0, 2200, 0, 0, -1), 1);
        CHECK.due("25: all of the last", pool.load(0, 2200, 0, 0, 10), 20);
        CHECK.due("25: all but ten: of the five light sorts", pool.load(0, 2190, 0, 0, -1), 5);
        CHECK.due("25: 60 less is one heavy or six light", pool.load(0, 2140, 0, 0, 10), 19);
        CHECK.due("25: all heavy may be there", pool.load(0, 2140, 0, 0, 11), 20);
        CHECK.due("25: six of one light sort may lack", pool.load(0, 2140, 0, 0, 0), 14);
    }
}
