/** The sentences of "==== 5." and promises 37 to 44 that name an edge: the NIGHT, the ROUND, BUYING. */
public final class EdgesOfPlansTest {
    private static final Check CHECK = new Check();

    public static void main(String[] args) {
        washersUpToThree();
        dryersOneToThree();
        jobsUpToSeven();
        loadsCutUp();
        dryForEachTenBegun();
        greatestNight();
        lateBehindDue();
        fewestLateThenLeastEnd();
        firstByNumbers();
        changeWhereUnlike();
        changeInEachOrder();
        changeOfTheWasher();
        washerReadyFirst();
        dryerFreeFirst();
        nightAskedFor();
        roundOfNone();
        roundOfSets();
        roundLateBehindNoon();
        roundFewestLateThenMinutes();
        roundFirst();
        roundFromAMinute();
        supplyAtFirst();
        supplyEach();
        buyingZeroToFiveLots();
        buyingWhatMustBeThere();
        buyingFewestLotsFirst();
        buyingBack();
        buyingKeep();
        buyingOneToTenDays();
        buyingCompared();
        CHECK.end();
    }

    /** SORTS of GRAMS 10, one of each CLASS, 5 minutes to dry. */
    private static LinenPool pool() {
        LinenPool pool = new LinenPool();
        for (int kind = 0; kind < 4; kind++) {
            pool.sort(10, kind, 5, 20, 100);
        }
        return pool;
    }

    /** LATE and END, then the ORDER, then the minute at which each JOB is dry. */
    private static void night(String call, LinenPool pool, int... due) {
        int jobs = (due.length - 2) / 2;
        CHECK.due(call + ", LATE", pool.night(0), due[0]);
        CHECK.due(call + ", END", pool.night(1), due[1]);
        for (int k = 0; k < jobs; k++) {
            CHECK.due(call + ", in order " + k, pool.night(10 + k), due[2 + k]);
            CHECK.due(call + ", dry " + k, pool.night(20 + k), due[2 + jobs + k]);
        }
        CHECK.due(call + ", no more in order", pool.night(10 + jobs), -1);
        CHECK.due(call + ", no more dry", pool.night(20 + jobs), -1);
    }

    /** "WASHERS, up to 3" */
    private static void washersUpToThree() {
        LinenPool pool = pool();
        for (int job = 0; job < 4; job++) {
            pool.job(0, 10, 1440);
        }
        pool.dryers(3);
        CHECK.due("no washer", pool.night(1), -1);
        int[] end = {125, 65, 65};
        for (int washer = 0; washer < 3; washer++) {
            CHECK.due("washer " + washer, pool.washer(100, 30, 0), washer);
            CHECK.due("end of " + (washer + 1), pool.night(1), end[washer]);
        }
        CHECK.due("a fourth", pool.washer(5000, 1, 0), -1);
        CHECK.due("three are there", pool.count(7), 3);
        CHECK.due("end as ever", pool.night(1), 65);
        pool.job(0, 10, 1440);
        pool.job(0, 10, 1440);
        CHECK.due("two each", pool.night(1), 65);
        pool.job(0, 10, 1440);
        CHECK.due("three on one", pool.night(1), 95);
    }

    /** "DRYERS 1 to 3 (1 at first)": three loads washed at 1, dry 90 each */
    private static void dryersOneToThree() {
        LinenPool pool = new LinenPool();
        pool.sort(10, 0, 90, 1, 1);
        for (int i = 0; i < 3; i++) {
            pool.washer(100, 1, 0);
            pool.job(0, 10, 1440);
        }
        CHECK.due("one at first", pool.night(1), 271);
        int[] end = {271, 181, 91};
        for (int dryers = 1; dryers <= 3; dryers++) {
            CHECK.due("dryers", pool.dryers(dryers), true);
            CHECK.due("end of " + dryers, pool.night(1), end[dryers - 1]);
        }
        CHECK.due("0", pool.dryers(0), false);
        CHECK.due("4", pool.dryers(4), false);
        CHECK.due("three still", pool.night(1), 91);
        CHECK.due("one again", pool.dryers(1), true);
        CHECK.due("one then", pool.night(1), 271);
    }

    /** "JOBS, up to 7" */
    private static void jobsUpToSeven() {
        LinenPool pool = pool();
        pool.washer(100, 10, 0);
        for (int job = 0; job < 7; job++) {
            CHECK.due("job " + job, pool.job(0, 10, 1440), job);
            CHECK.due("end", pool.night(1), 10 * (job + 1) + 5);
        }
        CHECK.due("an eighth", pool.job(0, 200, 0), -1);
        night("seven", pool, 0, 75, 0, 1, 2, 3, 4, 5, 6, 15, 25, 35, 45, 55, 65, 75);
        CHECK.due("cleared", pool.clear(), 7);
        CHECK.due("none is left", pool.clear(), 0);
        night("none", pool, 0, 0);
        CHECK.due("from 0 on", pool.job(0, 10, 1440), 0);
        night("one", pool, 0, 15, 0, 15);
        for (int job = 1; job < 7; job++) {
            CHECK.due("job " + job, pool.job(0, 10, 1440), job);
        }
        CHECK.due("an eighth", pool.job(0, 10, 1440), -1);
        CHECK.due("seven", pool.count(8), 7);
    }

    private static int end(int grams, int pieces, int load) {
        LinenPool pool = new LinenPool();
        pool.sort(grams, 0, 1, 1, 1);
        pool.washer(load, 100, 100);
        pool.job(0, pieces, 1440);
        return pool.night(1) - (pieces + 9) / 10;
    }

    /** "MINUTES for each load (PIECES times GRAMS by LOAD, cut up)" */
    private static void loadsCutUp() {
        int[][] loads = {{10, 10, 100, 1}, {10, 11, 100, 2}, {10, 9, 100, 1}, {10, 20, 100, 2}, {10, 21, 100, 3},
            {1, 1, 1, 1}, {1, 2, 1, 2}, {1, 1, 5000, 1}, {25, 200, 5000, 1}, {26, 200, 5000, 2}, {50, 200, 5000, 2},
            {60, 200, 5000, 3}, {25, 200, 4999, 2}, {60, 200, 1, 12_000}, {7, 1, 8, 1}, {7, 1, 7, 1}, {7, 1, 6, 2}};
        for (int[] one : loads) {
            CHECK.due(one[1] + " of " + one[0] + " by " + one[2], end(one[0], one[1], one[2]), 100 * one[3]);
        }
    }

    /** "DRY for each 10 PIECES begun" */
    private static void dryForEachTenBegun() {
        int[][] pieces = {{1, 1}, {9, 1}, {10, 1}, {11, 2}, {19, 2}, {20, 2}, {21, 3}, {190, 19}, {191, 20}, {200, 20}};
        for (int[] one : pieces) {
            LinenPool pool = new LinenPool();
            pool.sort(1, 0, 7, 1, 1);
            pool.washer(5000, 3, 0);
            pool.job(0, one[0], 1440);
            night(one[0] + " pieces", pool, 0, 3 + 7 * one[1], 0, 3 + 7 * one[1]);
        }
    }

    /** Seven JOBS of the greatest numbers: 12,000 loads each of 200 minutes, and changes of 100. */
    private static void greatestNight() {
        LinenPool pool = new LinenPool();
        pool.sort(60, 0, 90, 250, 1000);
        pool.sort(60, 1, 90, 250, 1000);
        pool.washer(1, 200, 100);
        for (int i = 0; i < 7; i++) {
            pool.job(i % 2, 200, 1440);
        }
        CHECK.due("all pieces late", pool.night(0), 1400);
        CHECK.due("one change", pool.night(1), 7 * 12_000 * 200 + 100 + 1800);
        CHECK.due("the class of four first", pool.night(10), 0);
        CHECK.due("then its next", pool.night(11), 2);
        CHECK.due("the other class last", pool.night(16), 5);
    }

    /** "LATE: PIECES of JOBS dry behind DUE" */
    private static void lateBehindDue() {
        int[][] dues = {{0, 7}, {34, 7}, {35, 0}, {36, 0}, {1440, 0}};
        for (int[] one : dues) {
            LinenPool pool = pool();
            pool.washer(100, 30, 0);
            pool.job(0, 7, one[0]);
            night("due at " + one[0], pool, one[1], 35, 0, 35);
        }
        LinenPool pool = pool();
        pool.washer(100, 200, 0);
        pool.job(0, 70, 1440);
        night("dry at 1,435", pool, 0, 1435, 0, 1435);
        pool.clear();
        pool.job(0, 71, 1440);
        night("dry at 1,640", pool, 71, 1640, 0, 1640);
    }

    /** "that of the fewest LATE, then the least END" */
    private static void fewestLateThenLeastEnd() {
        LinenPool pool = pool();
        pool.washer(100, 30, 10);
        // whichever is second is late: the fewer pieces
        pool.job(0, 9, 35);
        pool.job(0, 8, 35);
        night("the second has fewer", pool, 8, 65, 0, 1, 35, 65);
        pool.clear();
        pool.job(0, 8, 35);
        pool.job(0, 9, 35);
        night("the first has fewer", pool, 8, 65, 1, 0, 65, 35);
        pool.clear();
        // one late of 10 is worse than two of 4 and 5
        pool.job(0, 4, 35);
        pool.job(0, 5, 35);
        pool.job(0, 10, 35);
        night("pieces, not jobs", pool, 9, 95, 2, 0, 1, 65, 95, 35);
        pool.clear();
        // class 1 between two of class 0 has an END later by 10, but is in time
        pool.job(0, 10, 35);
        pool.job(0, 10, 1440);
        pool.job(1, 10, 75);
        night("fewer late, a later end", pool, 0, 115, 0, 2, 1, 35, 115, 75);
        pool.clear();
        pool.job(0, 10, 35);
        pool.job(0, 10, 1440);
        pool.job(1, 10, 74);
        night("late anyhow, the least end", pool, 10, 105, 0, 1, 2, 35, 65, 105);
    }

    /** "then the first by numbers" */
    private static void firstByNumbers() {
        LinenPool pool = pool();
        pool.washer(100, 30, 0);
        for (int i = 0; i < 4; i++) {
            pool.job(i, 10, i == 2 ? 35 : 1440);
        }
        night("2 first, then by numbers", pool, 0, 125, 2, 0, 1, 3, 65, 95, 35, 125);
        pool.clear();
        for (int i = 0; i < 4; i++) {
            pool.job(i, 10, i == 3 ? 95 : 1440);
        }
        night("3 as late as it may be", pool, 0, 125, 0, 1, 3, 2, 35, 65, 125, 95);
    }

    /** "CHANGE, if its last JOB's CLASS is unlike and no "mix" in force TODAY has both" */
    private static void changeWhereUnlike() {
        for (int a = 0; a < 4; a++) {
            for (int b = 0; b < 4; b++) {
                for (int c = 0; c < 4; c++) {
                    for (int d = 0; d < 4; d++) {
                        LinenPool pool = pool();
                        Texts.take(pool, "mix " + a + " with " + b + ";");
                        pool.washer(100, 30, 7);
                        pool.job(c, 10, 35);
                        pool.job(d, 10, 1440);
                        boolean both = a == c && b == d || a == d && b == c;
                        int due = c == d || both ? 65 : 72;
                        CHECK.due("mix " + a + " with " + b + ", " + c + " then " + d, pool.night(1), due);
                    }
                }
            }
        }
        String[] texts = {"mix 4 with 1;mix 1 with 4;", "mix 0 with 5;", "mix 16 with 0;", "mix 0 with 999999999;",
            "mix 8 with 1;mix 32 with 33;", "mix 0 with 2;mix 1 with 2;", "mix 0 with 0;mix 1 with 1;"};
        for (String text : texts) {
            LinenPool pool = pool();
            Texts.take(pool, text);
            pool.washer(100, 30, 7);
            pool.job(0, 10, 35);
            pool.job(1, 10, 1440);
            CHECK.due("a change with " + text, pool.night(1), 72);
            Texts.take(pool, "mix 3 with 2;mix 1 with 0;" + text);
            CHECK.due("none, one of many mixes", pool.night(1), 65);
            Texts.take(pool, text);
            CHECK.due("in force today alone", pool.night(1), 72);
        }
    }

    /** Each ORDER begins with washers that have had no JOB. */
    private static void changeInEachOrder() {
        LinenPool pool = pool();
        pool.washer(100, 30, 10);
        pool.job(0, 10, 1440);
        pool.job(1, 10, 1440);
        pool.job(2, 10, 1440);
        night("two changes in any order", pool, 0, 115, 0, 1, 2, 35, 75, 115);
        pool.clear();
        pool.job(0, 10, 1440);
        pool.job(1, 10, 1440);
        pool.job(0, 10, 1440);
        pool.job(1, 10, 1440);
        night("one change", pool, 0, 135, 0, 2, 1, 3, 35, 105, 65, 135);
        pool.clear();
        pool.job(0, 10, 1440);
        pool.job(1, 10, 35);
        night("no change ahead of the first", pool, 0, 75, 1, 0, 75, 35);
        Texts.take(pool, "mix 0 with 1;");
        night("no change between", pool, 0, 65, 1, 0, 65, 35);
    }

    /** Of three washers each has its own last JOB and its own CHANGE. */
    private static void changeOfTheWasher() {
        LinenPool pool = pool();
        pool.washer(100, 30, 0);
        pool.washer(100, 30, 100);
        pool.dryers(3);
        pool.job(0, 10, 1440);
        pool.job(1, 10, 1440);
        pool.job(2, 10, 1440);
        pool.job(3, 10, 1440);
        // the first goes to washer 0, the second to 1, the rest to 0 as it needs no time between
        night("no time between", pool, 0, 95, 0, 1, 2, 3, 35, 35, 65, 95);
        LinenPool other = pool();
        other.washer(100, 30, 100);
        other.washer(100, 30, 0);
        other.dryers(3);
        other.job(0, 10, 1440);
        other.job(1, 10, 1440);
        other.job(2, 10, 1440);
        other.job(0, 10, 1440);
        // 0 and 0 on washer 0, 1 and 2 on washer 1
        night("like jobs on the washer of a change", other, 0, 65, 0, 1, 2, 3, 35, 35, 65, 65);
    }

    /** "the WASHER on which it would be ready first (of several the least)" */
    private static void washerReadyFirst() {
        LinenPool pool = pool();
        pool.washer(100, 30, 0);
        pool.washer(200, 31, 0);
        pool.washer(100, 29, 0);
        pool.dryers(3);
        pool.job(0, 10, 1440);
        CHECK.due("29", pool.night(1), 34);
        pool.clear();
        pool.job(0, 20, 1440);
        CHECK.due("one load of 31 ahead of two of 29", pool.night(1), 41);
        pool.clear();
        pool.job(0, 10, 34);
        pool.job(0, 20, 41);
        pool.job(0, 10, 35);
        pool.job(0, 10, 1440);
        night("the last waits for the quickest", pool, 0, 63, 0, 1, 2, 3, 34, 41, 35, 63);
        // alike for the first: the least takes it, so that the second finds the washer of great loads free
        LinenPool alike = pool();
        alike.washer(100, 30, 0);
        alike.washer(300, 30, 0);
        alike.dryers(3);
        alike.job(0, 10, 35);
        alike.job(0, 30, 45);
        night("the least of those alike", alike, 0, 45, 0, 1, 35, 45);
        LinenPool turned = pool();
        turned.washer(300, 30, 0);
        turned.washer(100, 30, 0);
        turned.dryers(3);
        turned.job(0, 10, 35);
        turned.job(0, 30, 1440);
        // the first takes washer 0 of both alike; the second is ready at 60 there, at 90 on washer 1
        night("the least, though it's the great one", turned, 0, 45, 1, 0, 35, 45);
        turned.clear();
        turned.job(0, 30, 75);
        turned.job(0, 10, 35);
        night("the great one first", turned, 0, 45, 0, 1, 45, 35);
    }

    /** "to the DRYER that is free first (of several the least), from when both are" */
    private static void dryerFreeFirst() {
        LinenPool pool = new LinenPool();
        pool.sort(10, 0, 50, 1, 1);
        pool.sort(10, 0, 10, 1, 1);
        pool.washer(100, 20, 0);
        pool.job(0, 10, 70);
        pool.job(1, 10, 1440);
        night("it waits for the dryer", pool, 0, 80, 0, 1, 70, 80);
        pool.clear();
        pool.job(1, 10, 30);
        pool.job(0, 10, 1440);
        night("the dryer waits for it", pool, 0, 90, 0, 1, 30, 90);
        pool.clear();
        pool.dryers(2);
        pool.job(0, 10, 70);
        pool.job(0, 10, 90);
        pool.job(1, 10, 1440);
        night("the third takes the one free at 70", pool, 0, 90, 0, 1, 2, 70, 90, 80);
        pool.dryers(3);
        night("the third has its own", pool, 0, 90, 0, 1, 2, 70, 90, 70);
    }

    /** "NONE: none such, no WASHER" */
    private static void nightAskedFor() {
        LinenPool pool = pool();
        int[] all = {-1, 0, 1, 2, 9, 10, 11, 12, 19, 20, 21, 22};
        for (int what : all) {
            CHECK.due("no washer, no jobs, what " + what, pool.night(what), -1);
        }
        pool.job(0, 10, 1440);
        pool.job(0, 10, 1440);
        for (int what : all) {
            CHECK.due("no washer, what " + what, pool.night(what), -1);
        }
        pool.washer(100, 30, 0);
        int[] due = {-1, 0, 65, -1, -1, 0, 1, -1, -1, 35, 65, -1};
        for (int i = 0; i < all.length; i++) {
            CHECK.due("what " + all[i], pool.night(all[i]), due[i]);
        }
        pool.clear();
        int[] none = {-1, 0, 0, -1, -1, -1, -1, -1, -1, -1, -1, -1};
        for (int i = 0; i < all.length; i++) {
            CHECK.due("no jobs, what " + all[i], pool.night(all[i]), none[i]);
        }
    }

    /** "(of no HOUSES: 0 LATE, 0 minutes)" */
    private static void roundOfNone() {
        LinenPool pool = new LinenPool();
        for (int houses = 0; houses <= 8; houses++) {
            for (int minute : new int[] {0, 1440}) {
                CHECK.due("none of " + houses + ", late", pool.round(0, minute, 0), 0);
                CHECK.due("none of " + houses + ", minutes", pool.round(0, minute, 1), 0);
                CHECK.due("none of " + houses + ", no first", pool.round(0, minute, 10), -1);
            }
            CHECK.due("-1", pool.round(0, -1, 0), -1);
            CHECK.due("1,441", pool.round(0, 1441, 0), -1);
            CHECK.due("the next bit", pool.round(1 << houses, 0, 0), -1);
            CHECK.due("all bits and the next", pool.round((2 << houses) - 1, 0, 0), -1);
            pool.house(0, 0, 0, 0);
        }
    }

    /** "(bits of HOUSES)", "minutes as far as x and y are apart, added; 5 at each HOUSE" */
    private static void roundOfSets() {
        LinenPool pool = new LinenPool();
        int[] x = {0, 99, 0, 99, 50};
        int[] y = {0, 0, 99, 99, 50};
        for (int i = 0; i < 5; i++) {
            pool.house(0, x[i], y[i], 1440);
        }
        int[] alone = {5, 203, 203, 401, 205};
        for (int i = 0; i < 5; i++) {
            CHECK.due("to " + i + " and back", pool.round(1 << i, 3, 1), alone[i]);
            CHECK.due("to " + i, pool.round(1 << i, 3, 10), i);
            CHECK.due("one alone", pool.round(1 << i, 3, 11), -1);
        }
        CHECK.due("around the square", pool.round(14, 0, 1), 4 * 99 + 15);
        CHECK.due("by the first corner", pool.round(14, 0, 10), 1);
        CHECK.due("the far one", pool.round(14, 0, 11), 3);
        CHECK.due("the last corner", pool.round(14, 0, 12), 2);
        CHECK.due("and the works' own", pool.round(15, 0, 1), 4 * 99 + 20);
        CHECK.due("which is first", pool.round(15, 0, 10), 0);
        // the middle lies 99 from corner 1 and 98 from corner 3, which are 99 apart
        CHECK.due("all", pool.round(31, 0, 1), 4 * 99 + 98 + 25);
    }

    /** "LATE where it comes behind NOON" */
    private static void roundLateBehindNoon() {
        LinenPool pool = new LinenPool();
        pool.house(0, 10, 20, 100);
        int[][] minutes = {{0, 0}, {69, 0}, {70, 0}, {71, 1}, {1440, 1}};
        for (int[] one : minutes) {
            CHECK.due("from " + one[0], pool.round(1, one[0], 0), one[1]);
            CHECK.due("minutes from " + one[0], pool.round(1, one[0], 1), 65);
        }
        LinenPool works = new LinenPool();
        works.house(0, 0, 0, 0);
        works.house(0, 0, 0, 1440);
        CHECK.due("at 0 at the works", works.round(1, 0, 0), 0);
        CHECK.due("at 1", works.round(1, 1, 0), 1);
        CHECK.due("at 1,440", works.round(2, 1440, 0), 0);
        CHECK.due("the second is reached 5 later", works.round(3, 1436, 0), 1);
        CHECK.due("1,436: of both late it's the first", works.round(3, 1436, 10), 1);
        CHECK.due("1,435: both orders have one late", works.round(3, 1435, 10), 0);
    }

    /** "that of the fewest LATE, then the fewest minutes till it's back" */
    private static void roundFewestLateThenMinutes() {
        LinenPool pool = new LinenPool();
        pool.house(0, 10, 0, 1440);
        pool.house(0, 30, 0, 30);
        pool.house(0, 20, 0, 1440);
        CHECK.due("none late", pool.round(7, 0, 0), 0);
        CHECK.due("the far one first", pool.round(7, 0, 10), 1);
        CHECK.due("the two others on the way back", pool.round(7, 0, 1), 75);
        CHECK.due("the next by numbers or by minutes", pool.round(7, 0, 11), 2);
        CHECK.due("one late from 1 on", pool.round(7, 1, 0), 1);
        CHECK.due("then the first of the fewest minutes", pool.round(7, 1, 10), 0);
        CHECK.due("with the fewest minutes", pool.round(7, 1, 1), 75);
        LinenPool apart = new LinenPool();
        apart.house(0, 50, 0, 1440);
        apart.house(0, 0, 50, 50);
        apart.house(0, 50, 50, 1440);
        apart.house(0, 1, 0, 106);
        // 3 last of all would be 106 late: 1 first at 50, then 3 at 106, and 0 and 2 from there
        CHECK.due("both with a noon in time", apart.round(15, 0, 0), 0);
        CHECK.due("the first", apart.round(15, 0, 10), 1);
        CHECK.due("the second", apart.round(15, 0, 11), 3);
        CHECK.due("a minute later one is late", apart.round(15, 1, 0), 1);
    }

    /** "then the first": of orders that are alike in both */
    private static void roundFirst() {
        LinenPool pool = new LinenPool();
        for (int i = 0; i < 8; i++) {
            pool.house(0, 7, 7, 1440);
        }
        CHECK.due("eight at one place", pool.round(255, 0, 1), 28 + 40);
        for (int k = 0; k < 8; k++) {
            CHECK.due("by numbers " + k, pool.round(255, 0, 10 + k), k);
        }
        CHECK.due("no ninth", pool.round(255, 0, 18), -1);
        int[] due = {1, 3, 5, 7};
        for (int k = 0; k < 4; k++) {
            CHECK.due("of each second " + k, pool.round(170, 0, 10 + k), due[k]);
        }
        CHECK.due("no fifth", pool.round(170, 0, 14), -1);
    }

    /** A ROUND's minutes count from its leaving, whenever that is. */
    private static void roundFromAMinute() {
        LinenPool pool = new LinenPool();
        pool.house(0, 10, 0, 1440);
        pool.house(0, 0, 10, 1440);
        pool.house(0, 10, 10, 1440);
        for (int minute : new int[] {0, 500, 1000, 1400, 1440}) {
            CHECK.due("minutes from " + minute, pool.round(7, minute, 1), 55);
            CHECK.due("the second from " + minute, pool.round(7, minute, 11), 2);
        }
        int[] late = {0, 1, 1, 1, 2, 3};
        int[] from = {1400, 1401, 1410, 1415, 1416, 1431};
        for (int i = 0; i < from.length; i++) {
            CHECK.due("late from " + from[i], pool.round(7, from[i], 0), late[i]);
        }
    }

    /** SORT 0, a HOUSE; what is wanted on each of the first days. */
    private static LinenPool wanting(int... pieces) {
        LinenPool pool = pool();
        pool.house(0, 0, 0, 0);
        for (int day = 0; day < pieces.length; day++) {
            pool.want(0, 0, day, pieces[day]);
        }
        return pool;
    }

    private static void buys(String call, LinenPool pool, int days, int coins, int... lots) {
        CHECK.due(call + ", coins", pool.buy(0, days, 0), coins);
        for (int k = 0; k < days; k++) {
            CHECK.due(call + ", lots on day " + k, pool.buy(0, days, 1 + k), coins == -1 ? -1 : lots[k]);
        }
        CHECK.due(call + ", no more days", pool.buy(0, days, 1 + days), -1);
    }

    /** "Lots of 1 to 20 PIECES (10 at first) for 0 to 1,000 coins (50), KEEP 0 to 100 (1), BACK 1 to 10 (3)" */
    private static void supplyAtFirst() {
        buys("one of ten is wanted", wanting(1), 1, 59, 1);
        buys("all of ten are", wanting(10), 1, 50, 1);
        buys("eleven", wanting(11), 1, 109, 2);
        buys("back on the third day", wanting(10, 10, 10, 10, 10), 5, 150, 1, 1, 1, 0, 0);
        LinenPool pool = wanting(10, 10, 10, 10, 10);
        int[][] wrong = {{0, 0, 0, 1}, {21, 0, 0, 1}, {5, -1, 0, 1}, {5, 1001, 0, 1}, {5, 0, -1, 1}, {5, 0, 101, 1},
            {5, 0, 0, 0}, {5, 0, 0, 11}};
        for (int[] one : wrong) {
            CHECK.due("refused", pool.supply(one[0], one[1], one[2], one[3]), false);
        }
        buys("as at first", pool, 5, 150, 1, 1, 1, 0, 0);
    }

    /** Each of the four, least and greatest. */
    private static void supplyEach() {
        LinenPool pool = wanting(3);
        pool.supply(1, 50, 1, 3);
        buys("lots of 1", pool, 1, 150, 3);
        pool.supply(20, 50, 1, 3);
        buys("lots of 20", pool, 1, 67, 1);
        pool.supply(10, 0, 1, 3);
        buys("for 0", pool, 1, 7, 1);
        pool.supply(10, 1000, 1, 3);
        buys("for 1,000", pool, 1, 1007, 1);
        pool.supply(10, 50, 0, 3);
        buys("kept for 0", pool, 1, 50, 1);
        pool.supply(10, 50, 100, 3);
        buys("kept for 100", pool, 1, 750, 1);
        LinenPool ten = wanting(10, 10, 10, 10, 10, 10, 10);
        ten.supply(10, 50, 1, 1);
        buys("back the next day", ten, 3, 50, 1, 0, 0);
        ten.supply(10, 50, 1, 10);
        CHECK.due("back behind all", ten.buy(0, 10, 0), 500);
        ten.supply(10, 50, 1, 9);
        CHECK.due("back on the last", ten.buy(0, 10, 0), 450);
    }

    /** "0 to 5 lots that are bought" each morning */
    private static void buyingZeroToFiveLots() {
        LinenPool pool = wanting(0, 50);
        pool.supply(5, 10, 0, 3);
        buys("ten lots in two days", pool, 2, 100, 5, 5);
        pool.supply(4, 10, 0, 3);
        buys("ten of 4 are 40", pool, 2, -1);
        pool.want(0, 0, 1, 40);
        buys("40", pool, 2, 100, 5, 5);
        pool.want(0, 0, 1, 41);
        buys("41", pool, 2, -1);
        pool.sheet(0, 0);
        buys("41, one in stock", pool, 2, 100, 5, 5);
        LinenPool all = wanting(0, 0, 0, 0, 0, 0, 50);
        for (int house = 1; house < 8; house++) {
            all.house(0, 0, 0, 0);
            all.want(house, 0, 6, 50);
        }
        all.supply(20, 1, 0, 10);
        buys("400 of lots of 20", all, 7, 20, 0, 0, 0, 5, 5, 5, 5);
        all.supply(11, 1, 0, 10);
        // 35 lots of 11 are 385
        buys("400 of lots of 11", all, 7, -1);
        all.supply(12, 1, 0, 10);
        // 34 lots of 12 are 408
        buys("400 of lots of 12", all, 7, 34, 4, 5, 5, 5, 5, 5, 5);
    }

    /** "then what is wanted goes out (it must be there)" */
    private static void buyingWhatMustBeThere() {
        LinenPool pool = wanting(2);
        pool.sheet(0, 0);
        pool.sheet(0, 0);
        pool.sheet(1, 0);
        buys("as many as are in stock", pool, 1, 0, 0);
        pool.want(0, 0, 0, 3);
        buys("one more", pool, 1, 59, 1);
        pool.want(0, 0, 0, 2);
        pool.move(0, 0, 10);
        buys("one is at a house", pool, 1, 59, 1);
        pool.undo(0);
        buys("it isn't", pool, 1, 0, 0);
        pool.want(0, 0, 0, 50);
        pool.supply(9, 1, 1, 1);
        buys("five of 9 and two", pool, 1, -1);
        pool.sheet(0, 0);
        pool.sheet(0, 0);
        pool.sheet(0, 0);
        buys("five of 9 and five", pool, 1, 5, 5);
        CHECK.due("another sort wants none", pool.buy(1, 1, 0), 1);
    }

    /** "of several the fewest lots on the first DAY, then on the next" */
    private static void buyingFewestLotsFirst() {
        LinenPool pool = wanting(0, 0, 6);
        pool.supply(1, 0, 0, 10);
        buys("six of one", pool, 3, 0, 0, 1, 5);
        pool.want(0, 0, 2, 12);
        buys("twelve", pool, 3, 0, 2, 5, 5);
        pool.want(0, 0, 1, 3);
        pool.want(0, 0, 2, 4);
        buys("three and four", pool, 3, 0, 0, 3, 4);
        pool.supply(1, 1, 0, 10);
        buys("for coins", pool, 3, 7, 0, 3, 4);
        pool.supply(1, 1, 1, 10);
        buys("kept for coins", pool, 3, 7, 0, 3, 4);
        LinenPool free = wanting(0, 0, 0);
        free.supply(20, 0, 0, 10);
        buys("none is wanted", free, 3, 0, 0, 0, 0);
    }

    /** "each morning what was sent BACK DAYS ago (from TODAY on) comes back" */
    private static void buyingBack() {
        for (int back = 1; back <= 4; back++) {
            LinenPool pool = wanting(5, 0, 0, 0, 5);
            pool.supply(5, 10, 0, back);
            buys("back by the fourth, " + back, pool, 5, 10, 1, 0, 0, 0, 0);
        }
        LinenPool pool = wanting(5, 0, 0, 0, 5);
        pool.supply(5, 10, 0, 5);
        buys("back a day too late", pool, 5, 20, 1, 0, 0, 0, 1);
        // what went out ahead of TODAY doesn't come back
        LinenPool out = wanting(5, 5, 5, 5, 5, 5, 5);
        out.supply(5, 10, 0, 1);
        out.sheet(0, 0);
        out.sheet(0, 0);
        out.move(0, 0, 10);
        out.move(1, 0, 1);
        out.day(1);
        buys("those at a house don't", out, 2, 10, 1, 0);
        out.day(8);
        buys("from another day on", out, 2, 10, 1, 0);
        LinenPool kept = wanting(3, 0);
        kept.supply(3, 10, 2, 1);
        buys("kept when they're back", kept, 2, 16, 1, 0);
        kept.supply(3, 10, 2, 2);
        buys("not back yet", kept, 2, 10, 1, 0);
    }

    /** "KEEP for each piece left": each day, of those in STOCK too */
    private static void buyingKeep() {
        LinenPool pool = wanting(0);
        for (int i = 0; i < 150; i++) {
            pool.sheet(0, 0);
        }
        pool.supply(10, 50, 100, 1);
        CHECK.due("one day", pool.buy(0, 1, 0), 15_000);
        CHECK.due("ten days", pool.buy(0, 10, 0), 150_000);
        pool.supply(10, 50, 0, 1);
        CHECK.due("for nothing", pool.buy(0, 10, 0), 0);
        LinenPool two = wanting(4, 4);
        two.supply(8, 3, 1, 10);
        buys("one lot kept for 4, not two", two, 2, 7, 1, 0);
        two.supply(8, 4, 1, 10);
        buys("one lot kept for 4", two, 2, 8, 1, 0);
        LinenPool early = wanting(1, 5);
        early.supply(6, 4, 1, 10);
        // one lot keeps 5 for a day: 9; two keep 5 and 6
        buys("kept for a day", early, 2, 9, 1, 0);
    }

    /** "for d DAYS (1 to 10) from TODAY on" */
    private static void buyingOneToTenDays() {
        LinenPool pool = wanting(1, 2, 3, 4, 5, 6, 7);
        pool.supply(1, 1, 0, 10);
        for (int day = 0; day < 7; day++) {
            int due = day < 5 ? day + 1 : -1;
            CHECK.due("today alone", pool.buy(0, 1, 1), due);
            pool.day(pool.count(0) + 1);
        }
        CHECK.due("0 days", pool.buy(0, 0, 0), -1);
        CHECK.due("10 days", pool.buy(0, 10, 0), 1 + 2 + 3 + 4 + 5 + 6 + 7 + 1 + 2 + 3);
        CHECK.due("11 days", pool.buy(0, 11, 0), -1);
        CHECK.due("the last of ten", pool.buy(0, 10, 10), 3);
        CHECK.due("none behind it", pool.buy(0, 10, 11), -1);
        pool.day(1000);
        // 1,000 is 6 modulo 7
        buys("from 1,000 on", pool, 1, -1);
        pool.sheet(0, 0);
        pool.sheet(0, 0);
        CHECK.due("1,000 to 1,009", pool.buy(0, 10, 0), 5 + 1 + 2 + 3 + 4 + 5 + 6 + 7 + 1 + 2);
        CHECK.due("1,009 is 1 modulo 7", pool.buy(0, 10, 10), 2);
        Texts.take(pool, "feast 1009 to 1009 by 200;");
        CHECK.due("a feast on 1,009", pool.buy(0, 10, 10), 4);
        Texts.take(pool, "feast 1010 to 1010 by 200;");
        CHECK.due("a feast on 1,010 isn't among them", pool.buy(0, 10, 10), 2);
    }

    /** All ways to buy for three DAYS, the fewest lots first, one by one. */
    private static void buyingCompared() {
        int[][] wants = {{0, 0, 0}, {3, 1, 4}, {7, 0, 9}, {0, 9, 2}, {5, 5, 5}, {1, 12, 0}, {20, 1, 1}, {2, 3, 30}};
        int[][] supplies = {{1, 1, 0, 1}, {2, 0, 0, 2}, {3, 5, 1, 1}, {4, 2, 3, 2}, {7, 9, 1, 3}, {2, 1, 0, 1}};
        for (int[] want : wants) {
            LinenPool pool = wanting(want);
            for (int stock = 0; stock < 3; stock++) {
                for (int[] supply : supplies) {
                    pool.supply(supply[0], supply[1], supply[2], supply[3]);
                    int[] due = fewest(want, stock, supply);
                    String call = java.util.Arrays.toString(want) + " by " + java.util.Arrays.toString(supply);
                    for (int what = 0; what <= 3; what++) {
                        CHECK.due(call + ", stock " + stock + ", what " + what, pool.buy(0, 3, what), due[what]);
                    }
                }
                pool.sheet(0, 0);
            }
        }
    }

    private static int[] fewest(int[] want, int stock, int[] supply) {
        int[] best = {-1, -1, -1, -1};
        for (int ways = 0; ways < 216; ways++) {
            int[] lots = {ways / 36, ways / 6 % 6, ways % 6};
            int there = stock;
            int coins = 0;
            boolean can = true;
            for (int day = 0; day < 3; day++) {
                there += lots[day] * supply[0] - want[day];
                there += day >= supply[3] ? want[day - supply[3]] : 0;
                can = can && there >= 0;
                coins += lots[day] * supply[1] + there * supply[2];
            }
            if (can && (best[0] == -1 || coins < best[0])) {
                best = new int[] {coins, lots[0], lots[1], lots[2]};
            }
        }
        return best;
    }
}
