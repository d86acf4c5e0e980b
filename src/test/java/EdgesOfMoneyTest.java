/** The sentences of "==== 4." and promises 31 to 36 that name an edge: prices, bills, lost values, DUE, WANTS. */
public final class EdgesOfMoneyTest {
    private static final Check CHECK = new Check();

    public static void main(String[] args) {
        worthByTwentyCut();
        priceOfThatSortElseWithout();
        priceZeroAtLeast();
        priceByNames();
        priceByWashesOfThatDay();
        priceByTermsOfItsDay();
        priceByAWholeHouse();
        billFromTo();
        billAsKnown();
        lostValueCut();
        lostValueOfThoseInDoubt();
        lossWithoutAStatement();
        lossPartedByRests();
        lossEachZeroAtLeast();
        lossGreatest();
        dueAboveZero();
        dueByLife();
        dueInOrder();
        wantsOfAWeek();
        wantsOfHousesAdded();
        feastFromTo();
        feastsFirstSuch();
        feastCutAndHeld();
        feastOfWhatIsThere();
        CHECK.end();
    }

    private static LinenPool pool() {
        LinenPool pool = new LinenPool();
        pool.sort(10, 0, 5, 20, 100);
        pool.sort(25, 1, 8, 10, 60);
        pool.house(1, 3, 4, 60);
        pool.house(2, 10, 0, 100);
        pool.sheet(0, 0);
        pool.sheet(1, 1);
        return pool;
    }

    /** "else WORTH by 20, cut" */
    private static void worthByTwentyCut() {
        int[][] worths = {{1, 0}, {19, 0}, {20, 1}, {39, 1}, {40, 2}, {999, 49}, {1000, 50}};
        for (int[] worth : worths) {
            LinenPool pool = new LinenPool();
            pool.sort(1, 0, 1, 1, worth[0]);
            pool.house(0, 0, 0, 0);
            pool.sheet(0, 0);
            pool.move(0, 0, 10);
            CHECK.due("price by worth " + worth[0], pool.price(0, 0), worth[1]);
            CHECK.due("bill by worth " + worth[0], pool.bill(0, 0, 0, 0), worth[1]);
        }
    }

    /** "the last "price" of that SORT, else the last without a NUMBER, else WORTH by 20" */
    private static void priceOfThatSortElseWithout() {
        // text, price of SORT 0, of SORT 1
        Object[][] texts = {{"", 5, 3}, {"price 0=9;", 9, 3}, {"price 1=9;", 5, 9}, {"price 2=9;", 5, 3},
            {"price=9;", 9, 9}, {"price=8;price=9;", 9, 9}, {"price 0=8;price=9;", 8, 9}, {"price=9;price 0=8;", 8, 9},
            {"price 0=7;price 0=8;price=9;", 8, 9}, {"price 1=7;price=9;price 1=8;", 9, 8}, {"price 0=0;price=9;", 0, 9},
            {"price 000000001=7;", 5, 7}, {"price 10=7;price 100=8;", 5, 3}, {"price 999999999=7;", 5, 3},
            {"loss house=9;retire=8;feast 0 to 9 by 7;mix 0 with 1;heat 1 for 1;let a=4;", 5, 3}};
        for (Object[] one : texts) {
            LinenPool pool = pool();
            Texts.take(pool, (String) one[0]);
            CHECK.due("price of sort 0 by " + one[0], pool.price(0, 1), (Integer) one[1]);
            CHECK.due("price of sort 1 by " + one[0], pool.price(1, 1), (Integer) one[2]);
        }
    }

    /** "0 at least" */
    private static void priceZeroAtLeast() {
        Object[][] texts = {{"price=1;", 1L}, {"price=0;", 0L}, {"price=-1;", 0L}, {"price=-999999999*999999999;", 0L},
            {"price=999999999*999999999;", 1_000_000_000_000L}, {"price 0=0-5;price=7;", 0L}};
        for (Object[] one : texts) {
            LinenPool pool = pool();
            Texts.take(pool, (String) one[0]);
            CHECK.due("price by " + one[0], pool.price(0, 0), (Long) one[1]);
            pool.move(0, 0, 10);
            pool.move(0, 0, 10);
            CHECK.due("two moves by " + one[0], pool.bill(0, 0, 0, 0), 2 * (Long) one[1]);
        }
    }

    private static void priceByNames() {
        LinenPool pool = pool();
        Texts.take(pool, "let a=kind*10;let b=a+sort;price=b+1;retire=a+b+1;loss pool=b;");
        CHECK.due("price of sort 0 to kind 1", pool.price(0, 0), 11);
        CHECK.due("price of sort 0 to kind 2", pool.price(0, 1), 21);
        CHECK.due("price of sort 1 to kind 2", pool.price(1, 1), 22);
        CHECK.due("a name in stock", pool.value(1, 1), 1);
        CHECK.due("price by the house asked, not by the last one", pool.price(0, 0), 11);
        pool.want(1, 1, 0, 50);
        CHECK.due("wanted between", pool.wanted(1, 0), 50);
        CHECK.due("due by names, kind 0", pool.due(0), 0);
        CHECK.due("due, the second", pool.due(1), 1);
        Texts.take(pool, "let a=washes;retire=a;");
        CHECK.due("due by a name that is 0", pool.due(0), -1);
        pool.move(1, 0, 2);
        pool.move(1, 0, 0);
        CHECK.due("due by a name that is 1", pool.due(0), 1);
        CHECK.due("by that of the other sheet it isn't", pool.due(1), -1);
    }

    /** "by WASHES up to that DAY, all of its MOVES, too" */
    private static void priceByWashesOfThatDay() {
        LinenPool pool = pool();
        Texts.take(pool, "price=100+washes;");
        pool.day(5);
        pool.move(0, 3, 10);
        CHECK.due("none", pool.bill(0, 0, 5, 5), 100);
        pool.move(0, 2, 2);
        pool.move(0, 2, 0);
        CHECK.due("one of the day ahead", pool.bill(0, 0, 5, 5), 101);
        pool.move(0, 3, 2);
        CHECK.due("into WASH alone", pool.bill(0, 0, 5, 5), 101);
        pool.move(0, 3, 0);
        CHECK.due("one of that day, told behind the move", pool.bill(0, 0, 5, 5), 102);
        pool.move(0, 4, 2);
        pool.move(0, 4, 0);
        CHECK.due("none of the day behind", pool.bill(0, 0, 5, 5), 102);
        CHECK.due("today it's three", pool.price(0, 0), 103);
        pool.move(0, 5, 2);
        pool.move(0, 5, 0);
        CHECK.due("today's, too", pool.price(0, 0), 104);
        CHECK.due("of another sheet", pool.price(1, 0), 100);
    }

    /** "of TERMS in force on its DAY" */
    private static void priceByTermsOfItsDay() {
        LinenPool pool = pool();
        pool.day(2);
        Texts.take(pool, "price=10;");
        pool.day(4);
        Texts.take(pool, "price=20;");
        pool.day(6);
        for (int day = 0; day <= 6; day++) {
            pool.move(0, day, 10);
        }
        int[] due = {5, 5, 10, 10, 20, 20, 20};
        for (int day = 0; day <= 6; day++) {
            CHECK.due("price on " + day, pool.bill(0, day, day, 6), due[day]);
        }
        CHECK.due("all", pool.bill(0, 0, 6, 6), 90);
        Texts.take(pool, "");
        CHECK.due("without a price from today on", pool.bill(0, 6, 6, 6), 5);
        CHECK.due("ahead as ever", pool.bill(0, 5, 5, 6), 20);
    }

    /** "(by ... the HOUSE's kind; days, misses 0)": of the HOUSE to which it goes */
    private static void priceByAWholeHouse() {
        LinenPool pool = pool();
        pool.day(1);
        pool.move(0, 0, 10);
        pool.bag(0, 1);
        Texts.take(pool, "let a=kind*100+days*10+misses;price=kind*100+days*10+misses;");
        CHECK.due("it's at kind 1 for a day, missed once", pool.value(0, 0), 111);
        CHECK.due("to where it is", pool.price(0, 0), 100);
        CHECK.due("to the other", pool.price(0, 1), 200);
        pool.move(0, 1, 10);
        CHECK.due("a bill", pool.bill(0, 1, 1, 1), 100);
        Texts.take(pool, "price=day*1000+age;");
        pool.day(7);
        pool.sheet(0, 0);
        pool.day(9);
        CHECK.due("day and age", pool.price(2, 0), 9002);
        pool.move(2, 8, 10);
        CHECK.due("of the move's day", pool.bill(0, 8, 8, 9), 8001);
        pool.move(2, 7, 10);
        CHECK.due("of the day on which it came", pool.bill(0, 7, 7, 9), 7000);
    }

    /** "of DAYS from a to b", "(from above to goes: 0)" */
    private static void billFromTo() {
        LinenPool pool = pool();
        pool.day(1000);
        pool.move(0, 0, 10);
        pool.move(0, 5, 10);
        pool.move(0, 5, 10);
        pool.move(0, 6, 10);
        pool.move(0, 1000, 10);
        int[][] days = {{0, 0, 5}, {0, 4, 5}, {0, 5, 15}, {1, 5, 10}, {5, 5, 10}, {6, 6, 5}, {5, 6, 15}, {6, 999, 5},
            {6, 1000, 10}, {7, 999, 0}, {1000, 1000, 5}, {0, 1000, 25}, {6, 5, 0}, {1000, 0, 0}, {1000, 999, 0}};
        for (int[] one : days) {
            CHECK.due("bill from " + one[0] + " to " + one[1], pool.bill(0, one[0], one[1], 1000), one[2]);
        }
        CHECK.due("of no moves", pool.bill(1, 0, 1000, 1000), 0);
        CHECK.due("from above to, no house", pool.bill(2, 6, 5, 1000), -1);
        CHECK.due("from above to, 1,001", pool.bill(0, 1001, 5, 1000), -1);
        CHECK.due("from above to, -1", pool.bill(0, 6, -1, 1000), -1);
        CHECK.due("from above to, known 1,001", pool.bill(0, 6, 5, 1001), -1);
    }

    /** "PRICES of all MOVES into it KNOWN": told on k or ahead, not undone on k or ahead */
    private static void billAsKnown() {
        LinenPool pool = pool();
        Texts.take(pool, "price=100+washes;");
        pool.day(3);
        pool.move(0, 2, 10);
        pool.day(5);
        pool.move(0, 1, 2);
        pool.move(0, 1, 0);
        pool.day(7);
        pool.undo(0);
        long[] due = {0, 0, 0, 100, 100, 101, 101, 0, 0};
        for (int known = 0; known < due.length; known++) {
            CHECK.due("bill as known by " + known, pool.bill(0, 0, 1000, known), due[known]);
        }
    }

    /** A pool whose SHEET 0 is in DOUBT at HOUSE 0 on DAY 1, behind so many WASHES. */
    private static LinenPool losing(int worth, int life, int washes, String text) {
        LinenPool pool = new LinenPool();
        pool.sort(1, 0, 1, life, worth);
        pool.house(3, 0, 0, 0);
        pool.sheet(0, 0);
        Texts.take(pool, text);
        for (int i = 0; i < washes; i++) {
            pool.move(0, 0, 2);
            pool.move(0, 0, 0);
        }
        pool.move(0, 0, 10);
        pool.beyond(2);
        pool.day(1);
        pool.bag(0, 1);
        return pool;
    }

    /** "WORTH times (LIFE less WASHES, 0 at least) by LIFE, cut" */
    private static void lostValueCut() {
        int[][] values = {{7, 3, 0, 7}, {7, 3, 1, 4}, {7, 3, 2, 2}, {7, 3, 3, 0}, {7, 3, 4, 0}, {7, 3, 9, 0},
            {1, 1, 0, 1}, {1, 1, 1, 0}, {1, 1, 2, 0}, {1000, 250, 0, 1000}, {1000, 250, 1, 996}, {1, 250, 0, 1},
            {1, 250, 1, 0}, {1000, 3, 1, 666}, {999, 2, 1, 499}};
        for (int[] one : values) {
            LinenPool pool = losing(one[0], one[1], one[2], "");
            String call = "worth " + one[0] + ", life " + one[1] + ", washes " + one[2];
            CHECK.due(call, pool.part(0, 0, 1, 1), one[3]);
            CHECK.due(call + ", the works", pool.part(0, 1, 1, 1), 0);
            CHECK.due(call + ", the pool", pool.part(0, 2, 1, 1), 0);
        }
    }

    /** "of a SHEET in DOUBT": up to that DAY, as KNOWN */
    private static void lostValueOfThoseInDoubt() {
        LinenPool pool = losing(90, 10, 1, "");
        CHECK.due("the day of the bag", pool.part(0, 0, 1, 1), 81);
        CHECK.due("the day ahead", pool.part(0, 0, 0, 1), 0);
        CHECK.due("not known", pool.part(0, 0, 1, 0), 0);
        CHECK.due("days to come", pool.part(0, 0, 1000, 1000), 81);
        pool.sheet(0, 0);
        pool.move(1, 1, 10);
        pool.day(2);
        CHECK.due("one more is there, without a miss", pool.part(0, 0, 2, 2), 81);
        pool.bag(0, 2);
        CHECK.due("both are missed", pool.part(0, 0, 2, 2), 171);
        pool.read(1, 0);
        CHECK.due("one is read", pool.part(0, 0, 2, 2), 90);
        CHECK.due("it was in doubt ahead of that", pool.part(0, 0, 1, 2), 81);
    }

    /** "(the last of each; house 1, works 0, pool 0 without)" */
    private static void lossWithoutAStatement() {
        Object[][] texts = {{"", 10, 0, 0}, {"loss works=1;", 5, 5, 0}, {"loss pool=1;", 5, 0, 5},
            {"loss works=1;loss pool=3;", 2, 2, 6}, {"loss house=0;", 0, 0, 10}, {"loss house=2;", 10, 0, 0},
            {"loss house=9;loss house=1;loss works=9;loss works=4;", 2, 8, 0},
            {"loss pool=4;loss pool=0;loss works=0;loss house=0;", 0, 0, 10}, {"price=3;", 10, 0, 0}};
        for (Object[] one : texts) {
            LinenPool pool = losing(10, 1, 0, (String) one[0]);
            for (int who = 0; who < 3; who++) {
                CHECK.due("part " + who + " by " + one[0], pool.part(0, who, 1, 1), (Integer) one[1 + who]);
            }
        }
        LinenPool pool = losing(10, 1, 0, "");
        Texts.take(pool, "loss pool=4;");
        CHECK.due("in force from today on", pool.part(0, 2, 1, 1), 8);
        pool.day(3);
        Texts.take(pool, "loss works=9;");
        CHECK.due("on the day ahead", pool.part(0, 2, 2, 3), 8);
        CHECK.due("on that day", pool.part(0, 1, 3, 3), 9);
    }

    /** "VALUE times one's by all's, cut; what is left 1 by 1 to the greatest remainders, house, works, pool where alike" */
    private static void lossPartedByRests() {
        int[] values = {1, 2, 3, 5, 7, 10};
        for (int house = 0; house <= 4; house++) {
            for (int works = 0; works <= 4; works++) {
                for (int common = 0; common <= 4; common++) {
                    String text = "loss house=" + house + ";loss works=" + works + ";loss pool=" + common + ";";
                    int value = values[(house + 2 * works + 3 * common) % values.length];
                    LinenPool pool = losing(value, 1, 0, text);
                    int[] due = parted(value, house, works, common);
                    for (int who = 0; who < 3; who++) {
                        CHECK.due(value + " by " + text + " to " + who, pool.part(0, who, 1, 1), due[who]);
                    }
                }
            }
        }
    }

    private static int[] parted(int value, int... shares) {
        int all = shares[0] + shares[1] + shares[2];
        if (all == 0) {
            return new int[] {0, 0, value};
        }
        int[] parts = new int[3];
        boolean[] given = new boolean[3];
        int left = value;
        for (int who = 0; who < 3; who++) {
            while ((parts[who] + 1) * all <= value * shares[who]) {
                parts[who]++;
            }
            left -= parts[who];
        }
        int[] whole = parts.clone();
        while (left > 0) {
            int next = -1;
            for (int who = 2; who >= 0; who--) {
                int rest = value * shares[who] - whole[who] * all;
                if (!given[who] && (next < 0 || rest >= value * shares[next] - whole[next] * all)) {
                    next = who;
                }
            }
            given[next] = true;
            parts[next]++;
            left--;
        }
        return parts;
    }

    /** "each 0 at least (all 0: the pool's alone)" */
    private static void lossEachZeroAtLeast() {
        Object[][] texts = {{"loss house=-1;", 0, 0, 9}, {"loss house=-1;loss works=-2;loss pool=-3;", 0, 0, 9},
            {"loss house=-1;loss works=1;", 0, 9, 0}, {"loss house=2;loss works=-1;loss pool=1;", 6, 0, 3},
            {"loss house=1;loss works=-9;loss pool=-9;", 9, 0, 0}, {"loss house=0;loss works=0;loss pool=0;", 0, 0, 9},
            {"loss house=0-0;loss pool=-5;loss works=1-1;", 0, 0, 9}};
        for (Object[] one : texts) {
            LinenPool pool = losing(9, 1, 0, (String) one[0]);
            for (int who = 0; who < 3; who++) {
                CHECK.due("part " + who + " by " + one[0], pool.part(0, who, 1, 1), (Integer) one[1 + who]);
            }
        }
    }

    /** VALUE 1,000 times 10^12 */
    private static void lossGreatest() {
        String most = "999999999*999999999;";
        LinenPool pool = losing(1000, 250, 0, "loss house=" + most + "loss works=" + most + "loss pool=" + most);
        CHECK.due("a third and what is left", pool.part(0, 0, 1, 1), 334);
        CHECK.due("a third", pool.part(0, 1, 1, 1), 333);
        CHECK.due("a third", pool.part(0, 2, 1, 1), 333);
        pool = losing(1000, 250, 0, "loss house=1;loss works=" + most);
        CHECK.due("1 of 10^12 and 1 of 1,000", pool.part(0, 0, 1, 1), 0);
        CHECK.due("the greatest remainder", pool.part(0, 1, 1, 1), 1000);
    }

    /** "whose "retire" (the last) is above 0" */
    private static void dueAboveZero() {
        Object[][] texts = {{"retire=1;", 0}, {"retire=0;", -1}, {"retire=-1;", -1}, {"retire=1;retire=0;", -1},
            {"retire=0;retire=1;", 0}, {"retire=worth-99;", 0}, {"retire=worth-100;", -1}, {"retire=1/2;", -1}};
        for (Object[] one : texts) {
            LinenPool pool = new LinenPool();
            pool.sort(10, 0, 5, 1, 100);
            pool.house(1, 1, 1, 1);
            pool.sheet(0, 0);
            Texts.take(pool, (String) one[0]);
            CHECK.due("due by " + one[0], pool.due(0), (Integer) one[1]);
            CHECK.due("no second by " + one[0], pool.due(1), -1);
            pool.move(0, 0, 2);
            CHECK.due("not in stock, by " + one[0], pool.due(0), -1);
            pool.move(0, 0, 0);
            CHECK.due("washed, by " + one[0], pool.due(0), (Integer) one[1]);
        }
    }

    /** "without one WASHES of LIFE at least" */
    private static void dueByLife() {
        for (int life = 1; life <= 3; life++) {
            LinenPool pool = new LinenPool();
            pool.sort(10, 0, 5, life, 100);
            pool.sheet(0, 0);
            for (int washes = 0; washes <= life + 1; washes++) {
                String call = washes + " washes of " + life;
                CHECK.due(call, pool.due(0), washes >= life ? 0 : -1);
                pool.move(0, 0, 2);
                CHECK.due(call + ", in the wash", pool.due(0), -1);
                pool.move(0, 0, 0);
            }
            Texts.take(pool, "price=1;");
            CHECK.due("terms without one", pool.due(0), 0);
            pool.day(1);
            pool.undo(1);
            pool.undo(3);
            CHECK.due("as many as its life, as known now", pool.due(0), 0);
            pool.undo(5);
            CHECK.due("one less", pool.due(0), -1);
        }
    }

    /** "The k-th SHEET DUE to be RETIRED" */
    private static void dueInOrder() {
        LinenPool pool = new LinenPool();
        pool.sort(10, 0, 5, 1, 100);
        for (int i = 0; i < 150; i++) {
            pool.sheet(0, 0);
        }
        Texts.take(pool, "retire=1;");
        CHECK.due("the first", pool.due(0), 0);
        CHECK.due("the last", pool.due(149), 149);
        CHECK.due("no more", pool.due(150), -1);
        CHECK.due("none below 0", pool.due(-1), -1);
        pool.move(0, 0, 3);
        pool.move(75, 0, 4);
        CHECK.due("the first then", pool.due(0), 1);
        CHECK.due("ahead of the gap", pool.due(73), 74);
        CHECK.due("behind it", pool.due(74), 76);
        CHECK.due("the last then", pool.due(147), 149);
        CHECK.due("no more", pool.due(148), -1);
    }

    /** "0 to 50 of a SORT on each of 7 days of the week (DAY modulo 7)" */
    private static void wantsOfAWeek() {
        LinenPool pool = pool();
        int[] pieces = {0, 1, 2, 48, 49, 50, 7};
        for (int day = 0; day < 7; day++) {
            CHECK.due("want on " + day, pool.want(1, 1, day, pieces[day]), true);
        }
        CHECK.due("51", pool.want(1, 1, 0, 51), false);
        CHECK.due("-1", pool.want(1, 1, 5, -1), false);
        for (int day = 0; day <= 1010; day += day < 20 || day > 990 ? 1 : 9) {
            CHECK.due("wanted on " + day, pool.wanted(1, day), pieces[day % 7]);
        }
        CHECK.due("1,011", pool.wanted(1, 1011), -1);
        CHECK.due("nothing of the other sort", pool.wanted(0, 5), 0);
        pool.want(1, 1, 5, 0);
        CHECK.due("0 told anew", pool.wanted(1, 5), 0);
    }

    /** "What all HOUSES want": 8 of 50 */
    private static void wantsOfHousesAdded() {
        LinenPool pool = new LinenPool();
        pool.sort(1, 0, 1, 1, 1);
        CHECK.due("no houses", pool.wanted(0, 0), 0);
        for (int house = 0; house < 8; house++) {
            CHECK.due("not yet", pool.want(house, 0, 0, 50), false);
            pool.house(0, 0, 0, 0);
            CHECK.due("want", pool.want(house, 0, 0, 50), true);
            CHECK.due("wanted of all", pool.wanted(0, 0), 50 * (house + 1));
        }
        Texts.take(pool, "feast 0 to 0 by 999999999;");
        CHECK.due("each held to 1,000", pool.wanted(0, 0), 8000);
        CHECK.due("no ninth", pool.want(8, 0, 0, 50), false);
    }

    /** "on a DAY that a "feast" has (a to b" */
    private static void feastFromTo() {
        LinenPool pool = pool();
        for (int day = 0; day < 7; day++) {
            pool.want(0, 0, day, 10);
        }
        Texts.take(pool, "feast 3 to 5 by 200;feast 8 to 8 by 300;feast 12 to 11 by 400;feast 1010 to 999999999 by 500;");
        int[] due = {10, 10, 10, 20, 20, 20, 10, 10, 30, 10, 10, 10, 10};
        for (int day = 0; day < due.length; day++) {
            CHECK.due("wanted on " + day, pool.wanted(0, day), due[day]);
        }
        CHECK.due("on 1,009", pool.wanted(0, 1009), 10);
        CHECK.due("on 1,010", pool.wanted(0, 1010), 50);
        Texts.take(pool, "feast 0 to 0 by 200;");
        CHECK.due("on 0", pool.wanted(0, 0), 20);
        CHECK.due("on 1", pool.wanted(0, 1), 10);
    }

    /** "the first such" */
    private static void feastsFirstSuch() {
        LinenPool pool = pool();
        for (int day = 0; day < 7; day++) {
            pool.want(0, 0, day, 10);
        }
        Texts.take(pool, "feast 4 to 5 by 200;feast 3 to 9 by 300;feast 0 to 5 by 400;feast 4 to 4 by 500;");
        int[] due = {40, 40, 40, 30, 20, 20, 30, 30, 30, 30, 10};
        for (int day = 0; day < due.length; day++) {
            CHECK.due("wanted on " + day, pool.wanted(0, day), due[day]);
        }
    }

    /** "times its EX, by 100, cut, held to 0 to 1,000" */
    private static void feastCutAndHeld() {
        Object[][] texts = {{"99", 1, 0}, {"100", 1, 1}, {"199", 1, 1}, {"200", 1, 2}, {"33", 3, 0}, {"34", 3, 1},
            {"0", 50, 0}, {"-1", 50, 0}, {"-2", 50, 0}, {"-99", 1, 0}, {"-100", 1, 0}, {"-999999999*999999999", 50, 0},
            {"1998", 50, 999}, {"1999", 50, 999}, {"2000", 50, 1000}, {"2001", 50, 1000}, {"2002", 50, 1000},
            {"100000", 1, 1000}, {"99999", 1, 999}, {"100100", 1, 1000}, {"999999999", 50, 1000},
            {"999999999*999999999", 50, 1000}, {"999999999*999999999", 1, 1000}, {"999999999", 0, 0}, {"1/0", 50, 0}};
        for (Object[] one : texts) {
            LinenPool pool = pool();
            pool.want(0, 0, 0, (Integer) one[1]);
            Texts.take(pool, "feast 0 to 1 by " + one[0] + ";");
            CHECK.due(one[1] + " times " + one[0], pool.wanted(0, 0), (Integer) one[2]);
        }
        LinenPool pool = pool();
        pool.want(0, 0, 0, 1);
        pool.want(1, 0, 0, 1);
        Texts.take(pool, "feast 0 to 0 by 150;");
        CHECK.due("cut for each house", pool.wanted(0, 0), 2);
        Texts.take(pool, "feast 0 to 0 by (kind-1)*300-100;");
        CHECK.due("below 0 takes nothing from another", pool.wanted(0, 0), 2);
    }

    /** "(by kind, sort, life, worth, grams, day)"; "What isn't there is 0" */
    private static void feastOfWhatIsThere() {
        String[] words = {"kind", "sort", "life", "worth", "grams", "day", "washes", "age", "days", "misses"};
        int[] due = {2, 1, 10, 60, 25, 9, 0, 0, 0, 0};
        for (int i = 0; i < words.length; i++) {
            LinenPool pool = pool();
            pool.move(1, 0, 2);
            pool.move(1, 0, 0);
            pool.move(1, 0, 11);
            pool.day(5);
            pool.bag(1, 5);
            pool.want(1, 1, 2, 1);
            Texts.take(pool, "let a=" + words[i] + ";feast 9 to 9 by 100*" + words[i] + ";");
            pool.value(1, 0);
            CHECK.due("wanted by " + words[i], pool.wanted(1, 9), due[i]);
            Texts.take(pool, "let a=" + words[i] + ";feast 9 to 9 by 100*a;");
            pool.value(1, 0);
            CHECK.due("wanted by a name of " + words[i], pool.wanted(1, 9), due[i]);
        }
    }
}
