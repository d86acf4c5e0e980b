import java.io.IOException;

/** "==== 5." of the document: each sentence in its order, and calls that would tell if it were broken. */
public final class WalkOfPlansTest {
    private static final Check CHECK = new Check();
    private static Document doc;

    public static void main(String[] args) throws IOException {
        doc = new Document(CHECK, "==== 5. NIGHT", "The constants:");
        washers();
        dryers();
        jobs();
        washerOfAJob();
        change();
        minutes();
        dryerOfAJob();
        late();
        bestOrder();
        round();
        roundNoon();
        bestRound();
        buying();
        buyingLots();
        fewestCoins();
        supply();
        doc.end();
        CHECK.end();
    }

    private static void due(String call, long got, long want) {
        CHECK.due(call, got, want);
    }

    private static void due(String call, boolean got, boolean want) {
        CHECK.due(call, got, want);
    }

    /** SORTS of a CLASS each, of 10 GRAMS and so many minutes to dry. */
    private static LinenPool pool(int... dry) {
        LinenPool pool = new LinenPool();
        for (int i = 0; i < dry.length; i++) {
            pool.sort(10, i, dry[i], 20, 100);
        }
        return pool;
    }

    private static void order(LinenPool pool, int... jobs) {
        for (int i = 0; i < jobs.length; i++) {
            due("job " + i + " in order", pool.night(10 + i), jobs[i]);
        }
    }

    private static void dryAt(LinenPool pool, int... minutes) {
        for (int i = 0; i < minutes.length; i++) {
            due("job " + i + " is dry", pool.night(20 + i), minutes[i]);
        }
    }

    private static void washers() {
        doc.says("==== 5. NIGHT: WASHERS, up to 3:");
        LinenPool pool = pool(1);
        due("none", pool.night(0), -1);
        for (int i = 0; i < 3; i++) {
            due("washer " + i, pool.washer(1, 1, 0), i);
        }
        due("a fourth", pool.washer(1, 1, 0), -1);
        due("three are there", pool.count(7), 3);

        doc.says("LOAD 1 to 5,000 (as GRAMS),");
        pool = pool(1);
        due("load 0", pool.washer(0, 10, 0), -1);
        due("load 5,001", pool.washer(5001, 10, 0), -1);
        due("load 1", pool.washer(1, 10, 0), 0);
        pool.job(0, 1, 1440);
        due("10 loads of a gram", pool.night(1), 101);
        due("load 5,000", pool.washer(5000, 10, 0), 1);
        due("one load", pool.night(1), 11);

        doc.says("MINUTES 1 to 200 a load,");
        pool = pool(1);
        due("0 minutes", pool.washer(10, 0, 0), -1);
        due("201", pool.washer(10, 201, 0), -1);
        due("200", pool.washer(10, 200, 0), 0);
        pool.job(0, 2, 1440);
        due("two loads of 200", pool.night(1), 401);
        due("1", pool.washer(10, 1, 0), 1);
        due("two of 1", pool.night(1), 3);

        doc.says("CHANGE 0 to 100.");
        pool = pool(1, 1);
        due("change -1", pool.washer(10, 10, -1), -1);
        due("change 101", pool.washer(10, 10, 101), -1);
        due("change 100", pool.washer(10, 10, 100), 0);
        pool.job(0, 1, 1440);
        pool.job(1, 1, 1440);
        due("10, 100, 10 and 1", pool.night(1), 121);
        pool = pool(1, 1);
        pool.washer(10, 10, 0);
        pool.job(0, 1, 1440);
        pool.job(1, 1, 1440);
        due("10, 10 and 1", pool.night(1), 21);
    }

    private static void dryers() {
        doc.says("DRYERS 1 to 3 (1 at first).");
        LinenPool pool = pool(50);
        pool.washer(1000, 1, 0);
        for (int i = 0; i < 4; i++) {
            pool.job(0, 1, 1440);
        }
        due("one: 1 and 4 times 50", pool.night(1), 201);
        due("0 dryers", pool.dryers(0), false);
        due("4 dryers", pool.dryers(4), false);
        due("one still", pool.night(1), 201);
        due("2 dryers", pool.dryers(2), true);
        due("two: at 2, 52, 102", pool.night(1), 102);
        due("3 dryers", pool.dryers(3), true);
        due("three: the fourth from 51 on", pool.night(1), 101);
        due("1 dryer", pool.dryers(1), true);
        due("one again", pool.night(1), 201);
    }

    private static void jobs() {
        doc.says("JOBS, up to 7: a SORT, PIECES 1 to 200, DUE 0 to 1,440.");
        LinenPool pool = pool(1);
        pool.washer(1000, 1, 0);
        due("sort 1 isn't there", pool.job(1, 1, 0), -1);
        due("sort -1", pool.job(-1, 1, 0), -1);
        due("0 pieces", pool.job(0, 0, 0), -1);
        due("201 pieces", pool.job(0, 201, 0), -1);
        due("due -1", pool.job(0, 1, -1), -1);
        due("due 1,441", pool.job(0, 1, 1441), -1);
        due("200 pieces due at 0", pool.job(0, 200, 0), 0);
        due("they're late", pool.night(0), 200);
        due("2 loads of 1, 20 times 1 to dry", pool.night(1), 22);
        due("a piece due at 1,440", pool.job(0, 1, 1440), 1);
        for (int i = 2; i < 7; i++) {
            due("job " + i, pool.job(0, 1, 1440), i);
        }
        due("an eighth", pool.job(0, 1, 1440), -1);
        due("seven are there", pool.count(8), 7);
        due("the last in order", pool.night(16) >= 0, true);
        due("no eighth in order", pool.night(17), -1);
        due("an eighth isn't dry", pool.night(27), -1);
    }

    private static void washerOfAJob() {
        doc.says("In an ORDER each JOB in turn goes to the WASHER on which it would be ready first (of several the"
            + " least):");
        LinenPool pool = pool(1, 1);
        pool.washer(1000, 30, 40);
        pool.washer(1000, 50, 0);
        pool.job(0, 1, 1440);
        due("30 beats 50", pool.night(20), 31);
        pool.job(0, 1, 1440);
        // on washer 1 it's ready at 50, on washer 0 at 60
        due("the second goes to washer 1", pool.night(21), 51);
        pool.job(0, 1, 1440);
        // on washer 0 at 60, on washer 1 at 100
        due("the third to washer 0", pool.night(22), 61);
        pool = pool(1, 1);
        pool.washer(1000, 30, 100);
        pool.washer(1000, 30, 0);
        pool.job(0, 1, 1440);
        pool.job(1, 1, 1440);
        pool.job(0, 1, 1440);
        // both alike at first: job 0 to washer 0, job 1 to washer 1, job 2 on washer 0 or 1 at 60: the least
        dryAt(pool, 31, 32, 61);
        pool.clear();
        pool.job(0, 1, 1440);
        pool.job(1, 1, 1440);
        pool.job(1, 1, 1440);
        pool.job(0, 1, 1440);
        dryAt(pool, 31, 32, 61, 62);

        doc.says("from when that is free, and");
        pool = pool(1);
        pool.washer(1000, 30, 0);
        pool.job(0, 1, 1440);
        pool.job(0, 1, 1440);
        dryAt(pool, 31, 61);
    }

    private static LinenPool threeClasses(String terms) {
        LinenPool pool = pool(1, 1, 1);
        pool.washer(1000, 10, 7);
        Texts.take(pool, terms);
        return pool;
    }

    private static void change() {
        doc.says("CHANGE, if its last JOB's CLASS is unlike and no \"mix\" in force TODAY has both,");
        LinenPool pool = threeClasses("");
        pool.job(0, 1, 1440);
        due("none ahead of the first", pool.night(1), 11);
        pool.job(0, 1, 1440);
        due("none between like ones", pool.night(1), 21);
        pool.job(1, 1, 1440);
        due("between unlike ones", pool.night(1), 38);
        pool = threeClasses("mix 0 with 1;");
        pool.job(0, 1, 1440);
        pool.job(1, 1, 1440);
        due("a mix has both", pool.night(1), 21);
        pool.job(2, 1, 1440);
        due("none has 2", pool.night(1), 38);
        pool = threeClasses("mix 1 with 0;mix 1 with 2;");
        pool.job(0, 1, 1440);
        pool.job(2, 1, 1440);
        due("two that have one each", pool.night(1), 28);
        pool.job(1, 1, 1440);
        due("1 between both", pool.night(1), 31);
        order(pool, 0, 2, 1);
        pool.day(1);
        Texts.take(pool, "mix 2 with 0;mix 3 with 999999999;");
        due("by those of today", pool.night(1), 38);
    }

    private static void minutes() {
        doc.says("MINUTES for each load (PIECES times GRAMS by LOAD, cut up);");
        int[][] loads = {{1, 100, 1}, {10, 100, 1}, {11, 100, 2}, {20, 100, 2}, {21, 100, 3}, {200, 100, 20},
            {1, 9, 2}, {1, 10, 1}, {1, 3, 4}, {200, 2000, 1}, {200, 1999, 2}};
        for (int[] load : loads) {
            LinenPool pool = pool(1);
            pool.washer(load[1], 13, 0);
            pool.job(0, load[0], 1440);
            int dry = (load[0] + 9) / 10;
            due(load[0] + " pieces in loads of " + load[1], pool.night(20), 13 * load[2] + dry);
        }
    }

    private static void dryerOfAJob() {
        doc.says("then to the DRYER that is free first (of several the least), from when both are:");
        LinenPool pool = pool(50, 50, 5);
        pool.dryers(2);
        pool.washer(1000, 10, 0);
        pool.job(0, 1, 60);
        pool.job(2, 9, 25);
        pool.job(0, 1, 75);
        pool.job(2, 1, 65);
        // ready at 10, 20, 30, 40; dryer 0 till 60, dryer 1 20 to 25, 30 to 80, dryer 0 from 60
        due("job 2 alone is late", pool.night(0), 1);
        order(pool, 0, 1, 2, 3);
        dryAt(pool, 60, 25, 80, 65);
        pool.clear();
        pool.job(0, 1, 1440);
        pool.job(0, 1, 1440);
        due("two dryers, two at once", pool.night(1), 70);

        doc.says("DRY for each 10 PIECES begun.");
        int[][] tens = {{1, 1}, {9, 1}, {10, 1}, {11, 2}, {20, 2}, {21, 3}, {199, 20}, {200, 20}};
        for (int[] ten : tens) {
            LinenPool one = pool(7);
            one.washer(5000, 10, 0);
            one.job(0, ten[0], 1440);
            due(ten[0] + " pieces are dry", one.night(20), 10 + 7 * ten[1]);
        }
    }

    private static void late() {
        doc.says("LATE: PIECES of JOBS dry behind DUE.");
        LinenPool pool = pool(5);
        pool.washer(1000, 10, 0);
        pool.job(0, 3, 15);
        due("dry at 15, due at 15", pool.night(0), 0);
        pool.clear();
        pool.job(0, 3, 14);
        due("due at 14", pool.night(0), 3);
        pool.job(0, 8, 24);
        due("one of both must be late: the fewer pieces", pool.night(0), 3);
        order(pool, 1, 0);
        pool.job(0, 9, 0);
        due("this one as well", pool.night(0), 12);
    }

    private static void bestOrder() {
        doc.says("The NIGHT: of all ORDERS that of the fewest LATE,");
        LinenPool pool = pool(5, 20);
        pool.washer(1000, 10, 0);
        // job 0 first: dry at 30 and 35; job 1 first: 15 and 40
        pool.job(1, 1, 40);
        pool.job(0, 1, 15);
        due("none late, though it ends later", pool.night(0), 0);
        due("it ends", pool.night(1), 40);
        order(pool, 1, 0);

        doc.says("then the least END (the greatest minute at which one is dry),");
        pool.clear();
        pool.job(0, 1, 1440);
        pool.job(1, 1, 1440);
        due("35 beats 40", pool.night(1), 35);
        order(pool, 1, 0);
        dryAt(pool, 35, 30);

        doc.says("then the first by numbers.");
        pool.clear();
        for (int i = 0; i < 4; i++) {
            pool.job(0, 1, 1440);
        }
        order(pool, 0, 1, 2, 3);
        pool.clear();
        // the long one first: 30, 35, 40; behind another: 15, 40, 45; last: 15, 25, 50
        pool.job(0, 1, 1440);
        pool.job(0, 1, 1440);
        pool.job(1, 1, 1440);
        due("the least end", pool.night(1), 40);
        order(pool, 2, 0, 1);
        dryAt(pool, 35, 40, 30);
    }

    private static void round() {
        doc.says("```text ROUND: a lorry leaves the works at a minute for HOUSES of a set:");
        LinenPool pool = new LinenPool();
        pool.house(0, 3, 4, 1440);
        pool.house(0, 10, 0, 1440);
        pool.house(0, 0, 20, 1440);
        due("set -1", pool.round(-1, 0, 0), -1);
        due("set 8 has a house 3", pool.round(8, 0, 0), -1);
        due("set 9 too", pool.round(9, 0, 0), -1);
        due("minute -1", pool.round(1, -1, 0), -1);
        due("minute 1,441", pool.round(1, 1441, 0), -1);
        due("house 2 alone", pool.round(4, 0, 10), 2);
        due("no other", pool.round(4, 0, 11), -1);

        doc.says("minutes as far as x and y are apart, added; 5 at each HOUSE;");
        due("7, 5, 7", pool.round(1, 0, 1), 19);
        due("10, 5, 10", pool.round(2, 0, 1), 25);
        due("7, 5, 7 and 4, 5, 10", pool.round(3, 0, 1), 38);
        due("as long from any minute", pool.round(3, 1440, 1), 38);
        due("10, 11, 19, 20 and 15", pool.round(7, 0, 1), 75);
    }

    private static void roundNoon() {
        doc.says("LATE where it comes behind NOON.");
        LinenPool pool = new LinenPool();
        pool.house(0, 7, 0, 30);
        pool.house(0, 9, 0, 35);
        due("at 7", pool.round(1, 0, 0), 0);
        due("at 30", pool.round(1, 23, 0), 0);
        due("at 31", pool.round(1, 24, 0), 1);
        // it stays 5 at house 0 and comes to house 1 14 from its leaving
        due("at 28 and 35", pool.round(3, 21, 0), 0);
        due("at 29 and 36: or at 31 first and 38", pool.round(3, 22, 0), 1);
        due("both", pool.round(3, 40, 0), 2);
    }

    private static void bestRound() {
        doc.says("Of all orders that of the fewest LATE,");
        LinenPool pool = new LinenPool();
        pool.house(0, 1, 0, 1440);
        pool.house(0, 20, 0, 20);
        pool.house(0, 2, 0, 1440);
        due("straight to house 1", pool.round(7, 0, 10), 1);
        due("none late", pool.round(7, 0, 0), 0);

        doc.says("then the fewest minutes till it's back,");
        pool = new LinenPool();
        pool.house(0, 0, 10, 1440);
        pool.house(0, 10, 0, 1440);
        pool.house(0, 10, 10, 1440);
        due("around the square", pool.round(7, 0, 1), 55);
        due("by house 0", pool.round(7, 0, 10), 0);
        due("house 2", pool.round(7, 0, 11), 2);
        due("and house 1", pool.round(7, 0, 12), 1);

        doc.says("then the first");
        pool = new LinenPool();
        for (int i = 0; i < 4; i++) {
            pool.house(0, 5, 5, 1440);
        }
        for (int i = 0; i < 4; i++) {
            due("all alike: house " + i, pool.round(15, 0, 10 + i), i);
        }
        due("of 3 and 1 the first", pool.round(10, 0, 10), 1);

        doc.says("(of no HOUSES: 0 LATE, 0 minutes).");
        due("late", pool.round(0, 7, 0), 0);
        due("minutes", pool.round(0, 7, 1), 0);
        due("no first house", pool.round(0, 7, 10), -1);
        due("without any house there", new LinenPool().round(0, 7, 1), 0);
    }

    /** A pool with so many SHEETS of SORT 0 in STOCK; HOUSE 0 wants so many on the DAYS from 0 on. */
    private static LinenPool stock(int sheets, int... wants) {
        LinenPool pool = new LinenPool();
        pool.sort(10, 0, 5, 20, 100);
        pool.house(0, 0, 0, 0);
        for (int i = 0; i < sheets; i++) {
            pool.sheet(0, 0);
        }
        for (int day = 0; day < wants.length; day++) {
            pool.want(0, 0, day, wants[day]);
        }
        return pool;
    }

    private static void buys(LinenPool pool, int coins, int... lots) {
        due("coins for " + java.util.Arrays.toString(lots), pool.buy(0, lots.length, 0), coins);
        for (int day = 0; day < lots.length; day++) {
            due("lots on day " + day, pool.buy(0, lots.length, 1 + day), lots[day]);
        }
        due("a day more", pool.buy(0, lots.length, 1 + lots.length), -1);
    }

    private static void buying() {
        doc.says("BUYING for d DAYS (1 to 10) from TODAY on, of a SORT:");
        LinenPool pool = stock(8, 1, 2, 3);
        due("0 days", pool.buy(0, 0, 0), -1);
        due("11 days", pool.buy(0, 11, 0), -1);
        due("sort 1 isn't there", pool.buy(1, 1, 0), -1);
        due("what -1", pool.buy(0, 1, -1), -1);
        buys(pool, 7, 0);
        pool.day(1);
        buys(pool, 6, 0);
        buys(pool, 6 + 3, 0, 0);
        // days 1 and 2 leave 6 and 3; 2 and 3 are back by 4 and 5; 7, 8 and 9 take 1, 2, 3; 1 is back by 10
        buys(pool, 6 + 3 + 3 + 5 + 8 + 8 + 7 + 5 + 2 + 3, 0, 0, 0, 0, 0, 0, 0, 0, 0, 0);

        doc.says("each morning what was sent BACK DAYS ago (from TODAY on) comes back into STOCK,");
        pool = stock(4, 4, 0, 4);
        pool.supply(1, 10, 0, 2);
        buys(pool, 0, 0, 0, 0);
        pool.supply(1, 10, 0, 3);
        buys(pool, 40, 0, 0, 4);
        pool.supply(1, 10, 0, 1);
        buys(pool, 0, 0, 0, 0);
        pool.day(2);
        buys(pool, 0, 0);
        pool.move(0, 2, 10);
        buys(pool, 10, 1);
    }

    private static void buyingLots() {
        doc.says("and 0 to 5 lots that are bought;");
        LinenPool pool = stock(0, 10);
        pool.supply(2, 3, 0, 9);
        buys(pool, 15, 5);
        pool.supply(1, 3, 0, 9);
        due("5 lots of 1 aren't 10", pool.buy(0, 1, 0), -1);
        pool = stock(0, 0, 10);
        pool.supply(1, 3, 0, 9);
        buys(pool, 30, 5, 5);
        pool.supply(1, 3, 1, 9);
        buys(pool, 35, 5, 5);

        doc.says("then what is wanted goes out (it must be there);");
        pool = stock(3, 4);
        pool.supply(1, 3, 0, 9);
        buys(pool, 3, 1);
        pool = stock(3, 3, 1);
        pool.supply(1, 3, 0, 9);
        buys(pool, 3, 0, 1);
        pool = stock(0, 6);
        pool.supply(1, 3, 0, 9);
        due("it can't be", pool.buy(0, 1, 0), -1);
        due("nor are there lots", pool.buy(0, 1, 1), -1);

        doc.says("KEEP for each piece left.");
        pool = stock(7, 2, 1);
        pool.supply(1, 3, 9, 9);
        buys(pool, 5 * 9 + 4 * 9, 0, 0);
        pool.supply(10, 3, 9, 1);
        buys(pool, 5 * 9 + 6 * 9, 0, 0);
    }

    private static void fewestCoins() {
        doc.says("The fewest coins;");
        LinenPool pool = stock(0, 5, 5);
        // two lots of 5 at 10 each, the second when it's wanted; what went out comes back too late
        pool.supply(5, 10, 1, 2);
        buys(pool, 20, 1, 1);
        pool.supply(5, 10, 1, 1);
        buys(pool, 10, 1, 0);

        doc.says("of several the fewest lots on the first DAY, then on the next.");
        pool = stock(0, 0, 0, 2);
        pool.supply(1, 10, 0, 9);
        buys(pool, 20, 0, 0, 2);
        pool = stock(0, 1, 0, 6);
        pool.supply(1, 10, 0, 9);
        buys(pool, 70, 1, 1, 5);
        pool.supply(1, 0, 0, 9);
        buys(pool, 0, 1, 1, 5);
        pool = stock(0, 2, 2);
        pool.supply(4, 5, 0, 9);
        buys(pool, 5, 1, 0);
    }

    private static void supply() {
        doc.says("Lots of 1 to 20 PIECES (10 at first) for 0 to 1,000 coins (50), KEEP 0 to 100 (1), BACK 1 to 10"
            + " (3). ```");
        LinenPool pool = stock(0, 10, 0, 0, 10);
        buys(pool, 50, 1, 0, 0, 0);
        buys(pool, 50, 1, 0, 0);
        pool = stock(0, 10, 0, 10);
        buys(pool, 100, 1, 0, 1);
        pool = stock(0, 9, 0, 0, 10);
        // one left on three days, then 9 come back: all 10 are there
        buys(pool, 50 + 3, 1, 0, 0, 0);
        int[][] bad = {{0, 1, 1, 1}, {21, 1, 1, 1}, {1, -1, 1, 1}, {1, 1001, 1, 1}, {1, 1, -1, 1}, {1, 1, 101, 1},
            {1, 1, 1, 0}, {1, 1, 1, 11}};
        for (int[] one : bad) {
            due("supply " + java.util.Arrays.toString(one), pool.supply(one[0], one[1], one[2], one[3]), false);
        }
        buys(pool, 50 + 3, 1, 0, 0, 0);
        due("20 for 1,000", pool.supply(20, 1000, 100, 10), true);
        buys(pool, 1000 + 3 * 1100 + 100, 1, 0, 0, 0);
        due("1 for 0", pool.supply(1, 0, 0, 1), true);
        due("9 can't be bought", pool.buy(0, 1, 0), -1);
        pool = stock(0, 5);
        pool.supply(1, 0, 0, 1);
        buys(pool, 0, 5);
    }
}
