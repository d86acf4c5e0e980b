/** Promises 37 to 44: the night, the lorry's round, buying. */
public final class PlansTest {
    private static final Check CHECK = new Check();

    public static void main(String[] args) {
        washersAndDryers();
        jobs();
        nightOfNone();
        orderOfNight();
        changes();
        loads();
        mixesOfNone();
        leastOfWashers();
        twoOfEach();
        rounds();
        roundsByNoon();
        roundsRefused();
        roundOfEight();
        supplies();
        buying();
        buyingComesBack();
        buyingRefused();
        CHECK.end();
    }

    private static LinenPool pool() {
        LinenPool pool = new LinenPool();
        pool.sort(10, 0, 5, 20, 100);
        pool.sort(25, 1, 8, 10, 60);
        return pool;
    }

    private static void washersAndDryers() {
        LinenPool pool = pool();
        int[][] wrong = {{0, 1, 0}, {5001, 1, 0}, {1, 0, 0}, {1, 201, 0}, {1, 1, -1}, {1, 1, 101}};
        for (int[] one : wrong) {
            CHECK.due("37: not as told", pool.washer(one[0], one[1], one[2]), -1);
        }
        CHECK.due("37: refused ones do nothing", pool.count(7), 0);
        CHECK.due("37: least", pool.washer(1, 1, 0), 0);
        CHECK.due("37: most", pool.washer(5000, 200, 100), 1);
        CHECK.due("37: third", pool.washer(1, 1, 0), 2);
        CHECK.due("37: full", pool.washer(1, 1, 0), -1);
        CHECK.due("37: full does nothing", pool.count(7), 3);
        CHECK.due("38: 0", pool.dryers(0), false);
        CHECK.due("38: 1", pool.dryers(1), true);
        CHECK.due("38: 3", pool.dryers(3), true);
        CHECK.due("38: 4", pool.dryers(4), false);
    }

    private static void jobs() {
        LinenPool pool = pool();
        int[][] wrong = {{-1, 1, 0}, {2, 1, 0}, {0, 0, 0}, {0, 201, 0}, {0, 1, -1}, {0, 1, 1441}};
        for (int[] one : wrong) {
            CHECK.due("39: not as told", pool.job(one[0], one[1], one[2]), -1);
        }
        CHECK.due("39: refused ones do nothing", pool.count(8), 0);
        CHECK.due("40: none", pool.clear(), 0);
        CHECK.due("39: least", pool.job(0, 1, 0), 0);
        CHECK.due("39: most", pool.job(1, 200, 1440), 1);
        for (int i = 2; i < 7; i++) {
            CHECK.due("39: job " + i, pool.job(0, 1, 1), i);
        }
        CHECK.due("39: full", pool.job(0, 1, 1), -1);
        CHECK.due("40: all", pool.clear(), 7);
        CHECK.due("40: gone", pool.count(8), 0);
        CHECK.due("39: from 0 on again", pool.job(0, 1, 1), 0);
    }

    private static void nightOfNone() {
        LinenPool pool = pool();
        pool.job(0, 10, 100);
        CHECK.due("41: no washer", pool.night(0), -1);
        pool.washer(100, 30, 10);
        CHECK.due("41: LATE", pool.night(0), 0);
        CHECK.due("41: END", pool.night(1), 35);
        CHECK.due("41: first", pool.night(10), 0);
        CHECK.due("41: dry", pool.night(20), 35);
        int[] wrong = {-1, 2, 9, 11, 19, 21, 27, 30, Integer.MIN_VALUE, Integer.MAX_VALUE};
        for (int what : wrong) {
            CHECK.due("41: what " + what, pool.night(what), -1);
        }
        pool.clear();
        CHECK.due("41: LATE without jobs", pool.night(0), 0);
        CHECK.due("41: END without jobs", pool.night(1), 0);
        CHECK.due("41: no first", pool.night(10), -1);
        CHECK.due("41: none dry", pool.night(20), -1);
    }

    private static void night(LinenPool pool, int... due) {
        int jobs = (due.length - 2) / 2;
        CHECK.due("41: LATE", pool.night(0), due[0]);
        CHECK.due("41: END", pool.night(1), due[1]);
        for (int k = 0; k < jobs; k++) {
            CHECK.due("41: in order " + k, pool.night(10 + k), due[2 + k]);
            CHECK.due("41: dry " + k, pool.night(20 + k), due[2 + jobs + k]);
        }
    }

    private static void orderOfNight() {
        LinenPool pool = pool();
        pool.washer(100, 30, 10);
        pool.job(0, 10, 100);
        pool.job(1, 4, 40);
        night(pool, 0, 75, 1, 0, 75, 38);
        pool.clear();
        // neither in time: the earlier end
        pool.job(0, 10, 0);
        pool.job(1, 4, 0);
        night(pool, 14, 75, 1, 0, 75, 38);
        pool.clear();
        // dry at the minute when it's due
        pool.job(0, 10, 35);
        pool.job(1, 4, 78);
        night(pool, 0, 78, 0, 1, 35, 78);
        pool.clear();
        // a minute too late for one of both: that of fewer pieces
        pool.job(0, 10, 35);
        pool.job(1, 4, 38);
        night(pool, 4, 78, 0, 1, 35, 78);
        pool.clear();
        // alike in all: the first by numbers
        pool.job(0, 10, 100);
        pool.job(0, 10, 100);
        night(pool, 0, 65, 0, 1, 35, 65);
    }

    private static void changes() {
        LinenPool pool = pool();
        pool.sort(25, 1, 8, 10, 60);
        pool.washer(100, 30, 10);
        pool.job(1, 4, 1440);
        pool.job(2, 4, 1440);
        night(pool, 0, 68, 0, 1, 38, 68);
        pool.clear();
        pool.job(0, 10, 35);
        pool.job(1, 4, 1440);
        CHECK.due("41: with a change", pool.night(1), 78);
        Texts.take(pool, "mix 0 with 0;mix 1 with 1;mix 0 with 2;mix 4 with 1;mix 999999999 with 0;");
        CHECK.due("41: no mix has both", pool.night(1), 78);
        Texts.take(pool, "mix 2 with 3;");
        CHECK.due("41: a mix of others", pool.night(1), 78);
        Texts.take(pool, "mix 0 with 1;mix 2 with 3;");
        CHECK.due("41: a mix", pool.night(1), 68);
        Texts.take(pool, "mix 1 with 0;");
        CHECK.due("41: either way", pool.night(1), 68);
        pool.day(3);
        CHECK.due("41: still in force", pool.night(1), 68);
        Texts.take(pool, "");
        CHECK.due("41: not in force TODAY", pool.night(1), 78);
    }

    private static void loads() {
        LinenPool pool = pool();
        pool.washer(100, 30, 10);
        pool.job(0, 11, 69);
        night(pool, 11, 70, 0, 70);
        pool.clear();
        pool.job(0, 20, 70);
        night(pool, 0, 70, 0, 70);
        pool.clear();
        pool.job(1, 200, 1440);
        night(pool, 200, 1660, 0, 1660);
    }

    /** Numbers of no CLASS mix none. */
    private static void mixesOfNone() {
        LinenPool pool = new LinenPool();
        pool.sort(10, 0, 5, 20, 100);
        pool.sort(10, 2, 5, 20, 100);
        pool.washer(100, 30, 10);
        pool.job(0, 10, 1440);
        pool.job(1, 10, 1440);
        CHECK.due("41: a change", pool.night(1), 75);
        Texts.take(pool, "mix 4 with 1;mix 1 with 4;mix 0 with 8;mix 8 with 0;");
        CHECK.due("41: no such classes", pool.night(1), 75);
        Texts.take(pool, "mix 2 with 0;");
        CHECK.due("41: a mix", pool.night(1), 65);
    }

    /** The first job may go to either washer: to the least, so that the second finds the great one free. */
    private static void leastOfWashers() {
        LinenPool pool = pool();
        pool.washer(100, 30, 0);
        pool.washer(200, 30, 0);
        pool.dryers(2);
        pool.job(0, 10, 1440);
        pool.job(0, 20, 1440);
        night(pool, 0, 40, 0, 1, 35, 40);
        LinenPool small = pool();
        small.washer(1, 1, 0);
        small.job(0, 1, 1440);
        night(small, 0, 15, 0, 15);
    }

    private static void twoOfEach() {
        LinenPool pool = new LinenPool();
        pool.sort(10, 0, 50, 1, 1);
        pool.sort(10, 1, 1, 1, 1);
        pool.washer(100, 30, 10);
        pool.washer(100, 30, 90);
        pool.job(0, 10, 1440);
        pool.job(0, 10, 1440);
        pool.job(1, 10, 1440);
        // one dryer: 30 + 50, 80 + 50, then the short one
        night(pool, 0, 131, 0, 1, 2, 80, 130, 131);
        pool.dryers(2);
        // both long ones from 30 to 80; the short one is washed by 70 and waits
        night(pool, 0, 81, 0, 1, 2, 80, 80, 81);
        pool.dryers(3);
        night(pool, 0, 80, 0, 1, 2, 80, 80, 71);
    }

    private static LinenPool town() {
        LinenPool pool = new LinenPool();
        pool.house(0, 10, 0, 1440);
        pool.house(0, 0, 10, 1440);
        pool.house(0, 10, 10, 1440);
        return pool;
    }

    private static void rounds() {
        LinenPool pool = town();
        CHECK.due("42: no houses, LATE", pool.round(0, 1440, 0), 0);
        CHECK.due("42: no houses, minutes", pool.round(0, 1440, 1), 0);
        CHECK.due("42: no first", pool.round(0, 0, 10), -1);
        CHECK.due("42: one", pool.round(4, 7, 1), 45);
        CHECK.due("42: it", pool.round(4, 7, 10), 2);
        CHECK.due("42: all", pool.round(7, 0, 1), 55);
        int[] order = {0, 2, 1};
        for (int k = 0; k < 3; k++) {
            CHECK.due("42: house " + k, pool.round(7, 0, 10 + k), order[k]);
        }
        CHECK.due("42: no fourth", pool.round(7, 0, 13), -1);
        CHECK.due("42: what 2", pool.round(7, 0, 2), -1);
        CHECK.due("42: what 9", pool.round(7, 0, 9), -1);
        CHECK.due("42: what -1", pool.round(7, 0, -1), -1);
        CHECK.due("42: what far off", pool.round(7, 0, Integer.MAX_VALUE), -1);
    }

    private static void roundsByNoon() {
        LinenPool pool = new LinenPool();
        pool.house(0, 10, 0, 40);
        pool.house(0, 20, 0, 20);
        CHECK.due("42: both in time", pool.round(3, 0, 0), 0);
        CHECK.due("42: the far one first", pool.round(3, 0, 10), 1);
        CHECK.due("42: at noon", pool.round(2, 0, 0), 0);
        CHECK.due("42: behind noon", pool.round(2, 1, 0), 1);
        CHECK.due("42: from a minute", pool.round(3, 5, 0), 1);
        CHECK.due("42: the near one, then, first", pool.round(3, 5, 10), 0);
        CHECK.due("42: minutes are from its leaving", pool.round(3, 5, 1), 50);
        CHECK.due("42: both late", pool.round(3, 1440, 0), 2);
        CHECK.due("42: both late: the fewest minutes", pool.round(3, 1440, 1), 50);
        pool.house(0, 90, 0, 1440);
        // out and back, and 5 at each, in whatever order on the way
        CHECK.due("42: three, LATE alike: the fewest minutes", pool.round(7, 1000, 1), 195);
    }

    private static void roundsRefused() {
        LinenPool pool = town();
        CHECK.due("42: set -1", pool.round(-1, 0, 0), -1);
        CHECK.due("42: set least", pool.round(Integer.MIN_VALUE, 0, 0), -1);
        CHECK.due("42: no house 3", pool.round(8, 0, 0), -1);
        CHECK.due("42: set most", pool.round(Integer.MAX_VALUE, 0, 0), -1);
        CHECK.due("42: minute -1", pool.round(7, -1, 0), -1);
        CHECK.due("42: minute 1,441", pool.round(7, 1441, 0), -1);
        CHECK.due("42: minute 1,440", pool.round(7, 1440, 0), 3);
        CHECK.due("42: no houses at all", new LinenPool().round(0, 0, 1), 0);
        CHECK.due("42: none such at all", new LinenPool().round(1, 0, 1), -1);
    }

    private static void roundOfEight() {
        LinenPool pool = new LinenPool();
        for (int i = 0; i < 8; i++) {
            pool.house(0, 90 - 10 * i, 0, 1440);
        }
        CHECK.due("42: out and back", pool.round(255, 0, 1), 220);
        CHECK.due("42: first by numbers", pool.round(255, 0, 10), 0);
        CHECK.due("42: last", pool.round(255, 0, 17), 7);
        CHECK.due("42: behind it", pool.round(255, 0, 18), -1);
    }

    private static void supplies() {
        LinenPool pool = pool();
        CHECK.due("43: least", pool.supply(1, 0, 0, 1), true);
        CHECK.due("43: most", pool.supply(20, 1000, 100, 10), true);
        int[][] wrong = {{0, 0, 0, 1}, {21, 0, 0, 1}, {1, -1, 0, 1}, {1, 1001, 0, 1}, {1, 0, -1, 1}, {1, 0, 101, 1},
            {1, 0, 0, 0}, {1, 0, 0, 11}};
        for (int[] one : wrong) {
            CHECK.due("43: not as told", pool.supply(one[0], one[1], one[2], one[3]), false);
        }
        pool.house(0, 0, 0, 0);
        pool.want(0, 0, 0, 20);
        CHECK.due("43: refused ones do nothing", pool.buy(0, 1, 0), 1000);
    }

    private static void buying() {
        LinenPool pool = pool();
        pool.house(0, 0, 0, 0);
        CHECK.due("44: nothing is wanted", pool.buy(0, 3, 0), 0);
        for (int day = 0; day < 7; day++) {
            pool.want(0, 0, day, 10);
        }
        // 10 pieces for 50 coins, back on the third day at first
        CHECK.due("44: three lots", pool.buy(0, 10, 0), 150);
        CHECK.due("44: the last of them", pool.buy(0, 10, 3), 1);
        CHECK.due("44: they come back", pool.buy(0, 10, 4), 0);
        for (int day = 0; day < 7; day++) {
            pool.want(0, 0, day, 0);
        }
        pool.want(0, 0, 0, 4);
        pool.want(0, 0, 1, 8);
        // 10 pieces for 50 coins at first: one lot leaves 6, the next 10 - 2
        CHECK.due("44: two lots, the later one late", pool.buy(0, 2, 0), 50 + 6 + 50 + 8);
        CHECK.due("44: one on the first day", pool.buy(0, 2, 1), 1);
        CHECK.due("44: one on the next", pool.buy(0, 2, 2), 1);
        pool.sheet(0, 0);
        pool.sheet(0, 0);
        CHECK.due("44: two in STOCK: one lot does", pool.buy(0, 2, 0), 50 + 8);
        CHECK.due("44: on the first day", pool.buy(0, 2, 1), 1);
        CHECK.due("44: none on the next", pool.buy(0, 2, 2), 0);
        pool.move(0, 0, 1);
        CHECK.due("44: STOCK NOW", pool.buy(0, 2, 0), 50 + 7 + 50 + 9);
        pool.supply(10, 0, 0, 3);
        pool.undo(0);
        CHECK.due("44: free: the fewest lots on the first day", pool.buy(0, 2, 1), 1);
        CHECK.due("44: then on the next", pool.buy(0, 2, 2), 0);
        pool.supply(1, 0, 0, 3);
        CHECK.due("44: free: only what must be", pool.buy(0, 1, 1), 2);
        CHECK.due("44: free: all that may be", pool.buy(0, 2, 1), 5);
        pool.want(0, 0, 1, 9);
        CHECK.due("44: one more can't be", pool.buy(0, 2, 0), -1);
        pool.want(0, 0, 1, 8);
        pool.supply(2, 0, 0, 3);
        CHECK.due("44: ten in two days can", pool.buy(0, 2, 0), 0);
        CHECK.due("44: the fewest first", pool.buy(0, 2, 1), 1);
        CHECK.due("44: then more", pool.buy(0, 2, 2), 4);
    }

    private static void buyingComesBack() {
        LinenPool pool = pool();
        pool.house(0, 0, 0, 0);
        for (int day = 0; day < 7; day++) {
            pool.want(0, 0, day, 4);
        }
        pool.supply(4, 10, 1, 2);
        // 4 on each of the first two days; then they come back in turn
        CHECK.due("44: comes back", pool.buy(0, 10, 0), 20);
        for (int day = 0; day < 10; day++) {
            CHECK.due("44: lots on day " + day, pool.buy(0, 10, 1 + day), day < 2 ? 1 : 0);
        }
        pool.supply(4, 10, 1, 10);
        CHECK.due("44: nothing comes back in time", pool.buy(0, 10, 0), 100);
        pool.supply(4, 10, 1, 1);
        CHECK.due("44: back the next morning", pool.buy(0, 10, 0), 10);
        pool.day(1000);
        CHECK.due("44: days behind 1,000", pool.buy(0, 10, 0), 10);
        Texts.take(pool, "feast 1001 to 1001 by 200;");
        CHECK.due("44: a feast", pool.buy(0, 2, 2), 1);
    }

    private static void buyingRefused() {
        LinenPool pool = pool();
        pool.house(0, 0, 0, 0);
        CHECK.due("44: d 0", pool.buy(0, 0, 0), -1);
        CHECK.due("44: d 11", pool.buy(0, 11, 0), -1);
        CHECK.due("44: d 10", pool.buy(0, 10, 10), 0);
        CHECK.due("44: what -1", pool.buy(0, 2, -1), -1);
        CHECK.due("44: what behind the days", pool.buy(0, 2, 3), -1);
        CHECK.due("44: no sort", pool.buy(2, 2, 0), -1);
        CHECK.due("44: no sort", pool.buy(-1, 2, 0), -1);
        pool.supply(10, 0, 0, 1);
        for (int house = 1; house < 3; house++) {
            pool.house(0, 0, 0, 0);
        }
        pool.want(0, 0, 0, 50);
        CHECK.due("44: five lots", pool.buy(0, 1, 1), 5);
        pool.want(1, 0, 0, 1);
        CHECK.due("44: it can't be", pool.buy(0, 1, 0), -1);
        CHECK.due("44: it can't be", pool.buy(0, 1, 1), -1);
    }
}
