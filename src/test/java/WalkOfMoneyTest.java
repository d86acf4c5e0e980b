import java.io.IOException;

/** "==== 4." of the document: each sentence in its order, and calls that would tell if it were broken. */
public final class WalkOfMoneyTest {
    private static final Check CHECK = new Check();
    private static Document doc;

    public static void main(String[] args) throws IOException {
        doc = new Document(CHECK, "==== 4. PRICE", "==== 5. NIGHT");
        priceByTerms();
        priceBy();
        bill();
        lostValue();
        loss();
        lossParted();
        dueToBeRetired();
        wants();
        feasts();
        feastBy();
        doc.end();
        CHECK.end();
    }

    private static void due(String call, long got, long want) {
        CHECK.due(call, got, want);
    }

    private static void due(String call, boolean got, boolean want) {
        CHECK.due(call, got, want);
    }

    /** SORTS 0 and 1, HOUSES 0 and 1, a SHEET of each SORT. */
    private static LinenPool pool() {
        LinenPool pool = new LinenPool();
        pool.sort(10, 0, 5, 20, 100);
        pool.sort(25, 1, 8, 10, 79);
        pool.house(1, 3, 4, 60);
        pool.house(2, 10, 0, 100);
        pool.sheet(0, 0);
        pool.sheet(1, 1);
        return pool;
    }

    private static LinenPool poolBy(String terms) {
        LinenPool pool = pool();
        due("terms '" + terms + "'", Texts.take(pool, terms), 0);
        return pool;
    }

    private static void priceByTerms() {
        doc.says("==== 4. PRICE of a MOVE into a HOUSE: of TERMS in force on its DAY");
        LinenPool pool = pool();
        pool.move(0, 0, 10);
        pool.day(2);
        Texts.take(pool, "price=30;");
        pool.move(0, 1, 10);
        pool.move(0, 2, 10);
        due("on 0, ahead of the terms", pool.bill(0, 0, 0, 2), 5);
        due("on 1, told behind them", pool.bill(0, 1, 1, 2), 5);
        due("on 2", pool.bill(0, 2, 2, 2), 30);

        doc.says("the last \"price\" of that SORT,");
        pool = poolBy("price 0=1;price 0=2;price 1=3;price=4;price 2=5;");
        due("of sort 0", pool.price(0, 0), 2);
        due("of sort 1", pool.price(1, 0), 3);

        doc.says("else the last without a NUMBER,");
        pool = poolBy("price=6;price 1=3;price=4;price 2=5;");
        due("without for sort 0", pool.price(0, 0), 4);
        due("of sort 1 still", pool.price(1, 0), 3);

        doc.says("else WORTH by 20, cut;");
        pool = poolBy("price 2=5;loss house=9;");
        due("100 by 20", pool.price(0, 0), 5);
        due("79 by 20", pool.price(1, 0), 3);
        due("without terms", pool().price(1, 1), 3);

        doc.says("0 at least");
        pool = poolBy("price 0=-1;price=0-999999999;");
        due("-1", pool.price(0, 0), 0);
        due("far below", pool.price(1, 0), 0);
        pool.move(0, 0, 10);
        pool.move(1, 0, 10);
        due("each of a bill", pool.bill(0, 0, 0, 0), 0);
    }

    private static void priceBy() {
        doc.says("(by WASHES up to that DAY, all of its MOVES, too;");
        LinenPool pool = poolBy("price=washes;");
        pool.day(9);
        pool.move(0, 1, 2);
        pool.move(0, 2, 0);
        pool.move(0, 3, 10);
        pool.move(0, 4, 2);
        pool.move(0, 5, 10);
        due("one by 3", pool.bill(0, 3, 3, 9), 1);
        due("one by 5", pool.bill(0, 5, 5, 9), 1);
        due("today", pool.price(0, 0), 1);
        pool.move(0, 3, 2);
        pool.move(0, 3, 0);
        due("behind the move, but of its day", pool.bill(0, 3, 3, 9), 2);
        due("later ones too", pool.bill(0, 5, 5, 9), 2);
        pool.move(0, 9, 2);
        pool.move(0, 9, 0);
        due("today's own", pool.price(0, 0), 3);

        doc.says("the HOUSE's kind; days, misses 0).");
        pool = poolBy("price=kind*100+days*10+misses;");
        pool.move(0, 0, 10);
        pool.day(5);
        pool.bag(0, 3);
        due("to house 0, where it is", pool.price(0, 0), 100);
        due("to house 1", pool.price(0, 1), 200);
        pool.move(0, 4, 10);
        due("bills go by their own house", pool.bill(0, 0, 5, 5), 200);
        pool = poolBy("price=age*1000+life+worth*grams+sort*100000+day*10;");
        pool.day(7);
        pool.sheet(1, 0);
        pool.day(9);
        due("age 9, 20, 100 times 10, sort 0, day 9", pool.price(0, 0), 9000 + 20 + 1000 + 90);
        due("age 2, 10, 79 times 25, sort 1, day 9", pool.price(2, 0), 2000 + 10 + 1975 + 100_000 + 90);
    }

    private static void bill() {
        doc.says("BILL of a HOUSE: PRICES of all MOVES into it KNOWN,");
        LinenPool pool = poolBy("price=100+day;");
        pool.day(3);
        pool.move(0, 1, 10);
        pool.move(1, 2, 10);
        pool.move(0, 2, 11);
        pool.move(0, 2, 10);
        pool.move(1, 3, 1);
        due("101, 102 and 102 for house 0", pool.bill(0, 0, 3, 3), 305);
        due("102 for house 1", pool.bill(1, 0, 3, 3), 102);
        due("none known by 2", pool.bill(0, 0, 3, 2), 0);
        pool.day(5);
        pool.undo(0);
        due("101 isn't known by 5", pool.bill(0, 0, 3, 5), 204);
        due("by 4 it is", pool.bill(0, 0, 3, 4), 305);

        doc.says("of DAYS from a to b, added.");
        due("from 2 on", pool.bill(0, 2, 1000, 4), 204);
        due("up to 1", pool.bill(0, 0, 1, 4), 101);
        due("1 alone", pool.bill(0, 1, 1, 4), 101);
        due("3 on", pool.bill(0, 3, 9, 4), 0);
    }

    private static void lostValue() {
        doc.says("```text LOST VALUE of a SHEET in DOUBT: WORTH times (LIFE less WASHES, 0 at least) by LIFE, cut.");
        LinenPool pool = pool();
        for (int wash = 0; wash < 3; wash++) {
            pool.move(1, 0, 2);
            pool.move(1, 0, 0);
        }
        pool.move(0, 0, 10);
        pool.move(1, 0, 10);
        pool.day(4);
        pool.lot(0, 0);
        pool.bag(0, 2);
        due("sheet 0 in doubt: 100 times 20 by 20", pool.part(0, 0, 4, 4), 100);
        pool.lot(1, 0);
        due("and 79 times 7 by 10, 55.3", pool.part(0, 0, 4, 4), 155);
        due("neither up to 1", pool.part(0, 0, 1, 4), 0);
        due("nor as known by 3", pool.part(0, 0, 4, 3), 0);
        due("nor at house 1", pool.part(1, 0, 4, 4), 0);
        pool = pool();
        for (int wash = 0; wash < 9; wash++) {
            pool.move(1, 0, 2);
            pool.move(1, 0, 0);
        }
        pool.move(1, 0, 10);
        pool.day(1);
        pool.lot(1, 0);
        pool.bag(0, 1);
        due("79 by 10, 7.9", pool.part(0, 0, 1, 1), 7);
        pool.move(1, 0, 2);
        pool.move(1, 0, 0);
        pool.move(1, 0, 10);
        due("10 washes of a life of 10", pool.part(0, 0, 1, 1), 0);
        pool.move(1, 0, 2);
        pool.move(1, 0, 0);
        pool.move(1, 0, 10);
        due("11 washes", pool.part(0, 0, 1, 1), 0);
    }

    /** A SHEET of SORT 0 at HOUSE 0 since DAY 0 in DOUBT on DAY 4: 100 are lost. */
    private static LinenPool poolThatLost(String terms) {
        LinenPool pool = poolBy(terms);
        pool.move(0, 0, 10);
        pool.lot(0, 0);
        pool.day(4);
        pool.bag(0, 2);
        return pool;
    }

    private static void parts(String terms, int house, int works, int pool) {
        LinenPool lost = poolThatLost(terms);
        due("the house's part by " + terms, lost.part(0, 0, 4, 4), house);
        due("the works' part by " + terms, lost.part(0, 1, 4, 4), works);
        due("the pool's part by " + terms, lost.part(0, 2, 4, 4), pool);
    }

    private static void loss() {
        doc.says("It's parted by what \"loss\" (the last of each; house 1, works 0, pool 0 without) tells,");
        parts("", 100, 0, 0);
        parts("loss works=1;", 50, 50, 0);
        parts("loss works=3;", 25, 75, 0);
        parts("loss pool=1;", 50, 0, 50);
        parts("loss pool=4;loss works=5;", 10, 50, 40);
        parts("loss house=9;loss house=0;loss works=7;loss pool=1;loss works=1;", 0, 50, 50);
        parts("let a=days;loss house=a;loss works=misses*4;loss pool=kind+washes+1;", 40, 40, 20);
        due("by terms in force on that day", poolThatLost("loss house=0;loss works=1;").part(0, 1, 4, 4), 100);
        LinenPool pool = poolThatLost("loss house=0;loss works=1;");
        pool.day(5);
        Texts.take(pool, "loss house=0;loss pool=1;");
        due("of 4", pool.part(0, 1, 4, 5), 100);
        due("of 5", pool.part(0, 1, 5, 5), 0);
        due("the pool's of 5", pool.part(0, 2, 5, 5), 100);

        doc.says("each 0 at least");
        parts("loss house=-5;loss works=1;loss pool=3;", 0, 25, 75);
        parts("loss house=5;loss works=-1;", 100, 0, 0);

        doc.says("(all 0: the pool's alone):");
        parts("loss house=0;", 0, 0, 100);
        parts("loss house=-1;loss works=-1;loss pool=-1;", 0, 0, 100);
    }

    private static void lossParted() {
        doc.says("VALUE times one's by all's, cut;");
        parts("loss house=2;loss works=1;loss pool=1;", 50, 25, 25);
        parts("loss house=1;loss works=999;", 0, 100, 0);
        parts("loss house=1000000*1000000;loss works=1000000*1000000;", 50, 50, 0);

        doc.says("what is left 1 by 1 to the greatest remainders, house, works, pool where alike.");
        // of 100: thirds leave a third each; sevenths of 1, 2, 4 leave 2, 4 and 1 of 7
        parts("loss house=1;loss works=1;loss pool=1;", 34, 33, 33);
        parts("loss house=1;loss works=2;loss pool=4;", 14, 29, 57);
        parts("loss house=4;loss works=2;loss pool=1;", 57, 29, 14);
        // of 100 by 8: 37.5 and 37.5 and 25
        parts("loss house=3;loss works=3;loss pool=2;", 38, 37, 25);
        parts("loss house=2;loss works=3;loss pool=3;", 25, 38, 37);
        parts("loss house=3;loss works=2;loss pool=3;", 38, 25, 37);
        // of 100 by 13: 46.15, 46.15, 7.69; by 11: 45.45, 45.45, 9.09; by 17: 47.06, 5.88, 47.06
        parts("loss house=6;loss works=6;loss pool=1;", 46, 46, 8);
        parts("loss house=5;loss works=5;loss pool=1;", 46, 45, 9);
        parts("loss house=8;loss works=1;loss pool=8;", 47, 6, 47);
        // of 100 by 12: 58.33, 33.33, 8.33; by 19: 36.84, 36.84, 26.32
        parts("loss house=7;loss works=4;loss pool=1;", 59, 33, 8);
        parts("loss house=7;loss works=7;loss pool=5;", 37, 37, 26);
        // two SHEETS, each parted by itself: 34 and 34, not 67
        LinenPool pool = poolBy("loss house=1;loss works=1;loss pool=1;");
        pool.sheet(0, 0);
        pool.move(0, 0, 10);
        pool.move(2, 0, 10);
        pool.lot(0, 0);
        pool.day(4);
        pool.bag(0, 2);
        due("the house's of two", pool.part(0, 0, 4, 4), 68);
        due("the works' of two", pool.part(0, 1, 4, 4), 66);
    }

    private static void dueToBeRetired() {
        doc.says("DUE to be RETIRED: SHEETS in STOCK NOW");
        LinenPool pool = poolBy("retire=1;");
        int[] places = {0, 1, 2, 3, 4, 10, 11};
        for (int i = 0; i < places.length; i++) {
            pool.move(0, 0, places[i]);
            due("due at " + places[i], pool.due(0), places[i] == 0 ? 0 : 1);
        }
        pool.day(3);
        pool.move(0, 2, 0);
        due("in stock again", pool.due(0), 0);
        due("the other", pool.due(1), 1);

        doc.says("whose \"retire\" (the last) is above 0;");
        due("0 isn't", poolBy("retire=1;retire=0;").due(0), -1);
        due("1 is", poolBy("retire=0;retire=1;").due(1), 1);
        due("-1 isn't", poolBy("retire=-1;").due(0), -1);
        due("sort 1 alone", poolBy("retire=sort;").due(0), 1);
        due("sort 0 alone", poolBy("retire=1-sort;").due(0), 0);
        pool = poolBy("retire=age+washes-4;");
        pool.day(4);
        due("age 4", pool.due(0), -1);
        pool.move(1, 2, 2);
        pool.move(1, 3, 0);
        due("age 4 and a wash", pool.due(0), 1);
        due("none but that", pool.due(1), -1);
        pool.day(5);
        due("age 5", pool.due(0), 0);

        doc.says("without one WASHES of LIFE at least.");
        pool = poolBy("price=1;");
        for (int wash = 1; wash <= 11; wash++) {
            pool.move(1, 0, 2);
            due("at the wash", pool.due(0), -1);
            pool.move(1, 0, 0);
            due("due by " + wash + " washes of 10", pool.due(0), wash < 10 ? -1 : 1);
        }
    }

    private static void wants() {
        doc.says("WANTS of a HOUSE: 0 to 50 of a SORT on each of 7 days of the week (DAY modulo 7);");
        LinenPool pool = pool();
        due("none at first", pool.wanted(0, 0), 0);
        due("-1", pool.want(0, 0, 0, -1), false);
        due("51", pool.want(0, 0, 0, 51), false);
        due("day -1 of the week", pool.want(0, 0, -1, 5), false);
        due("day 7", pool.want(0, 0, 7, 5), false);
        for (int weekday = 0; weekday < 7; weekday++) {
            due("10 and " + weekday, pool.want(0, 0, weekday, 10 + weekday), true);
        }
        pool.want(0, 1, 3, 50);
        pool.want(1, 0, 3, 20);
        for (int day = 0; day <= 21; day++) {
            due("of sort 0 on " + day, pool.wanted(0, day), 10 + day % 7 + (day % 7 == 3 ? 20 : 0));
            due("of sort 1 on " + day, pool.wanted(1, day), day % 7 == 3 ? 50 : 0);
        }
        due("1,010 is 2 of the week", pool.wanted(0, 1010), 12);
        pool.want(0, 0, 2, 0);
        due("0 again", pool.wanted(0, 1010), 0);
    }

    private static void feasts() {
        doc.says("on a DAY that a \"feast\" has (a to b; the first such):");
        LinenPool pool = poolBy("feast 3 to 5 by 200;feast 5 to 9 by 300;feast 12 to 11 by 900;feast 13 to 13 by 50;");
        for (int weekday = 0; weekday < 7; weekday++) {
            pool.want(0, 0, weekday, 10);
        }
        int[] wanted = {10, 10, 10, 20, 20, 20, 30, 30, 30, 30, 10, 10, 10, 5, 10};
        for (int day = 0; day < wanted.length; day++) {
            due("wanted on " + day, pool.wanted(0, day), wanted[day]);
        }
        pool.day(4);
        Texts.take(pool, "feast 0 to 8 by 400;");
        due("on 3 by those in force on it", pool.wanted(0, 3), 20);
        due("on 4 by the new ones", pool.wanted(0, 4), 40);
        due("on 2 without a feast", pool.wanted(0, 2), 10);
        due("on 9 without one now", pool.wanted(0, 9), 10);
    }

    private static int feast(String ex, int pieces) {
        LinenPool pool = poolBy("feast 0 to 9 by " + ex + ";");
        pool.want(0, 0, 0, pieces);
        return pool.wanted(0, 0);
    }

    private static void feastBy() {
        doc.says("times its EX, by 100, cut, held to 0 to 1,000");
        due("7 times 150 by 100", feast("150", 7), 10);
        due("3 times 33", feast("33", 3), 0);
        due("3 times 34", feast("34", 3), 1);
        due("50 times 2,000", feast("2000", 50), 1000);
        due("50 times 2,001", feast("2001", 50), 1000);
        due("50 times 1,999", feast("1999", 50), 999);
        due("times 10^12", feast("1000000*1000000", 50), 1000);
        due("times 0", feast("0", 50), 0);
        due("times -100", feast("-100", 50), 0);
        LinenPool two = poolBy("feast 0 to 9 by 3000*(kind-1)-100;");
        two.want(0, 0, 0, 50);
        two.want(1, 0, 0, 50);
        due("each house's held by itself", two.wanted(0, 0), 1000);

        doc.says("(by kind, sort, life, worth, grams, day). ```");
        LinenPool pool = poolBy("feast 0 to 9 by kind*100;");
        pool.want(0, 0, 2, 3);
        pool.want(1, 0, 2, 5);
        due("3 and twice 5", pool.wanted(0, 2), 13);
        due("sort 0", feast("100+sort", 50), 50);
        due("life 20", feast("life", 50), 10);
        due("worth 100", feast("worth", 50), 50);
        due("grams 10", feast("grams", 50), 5);
        due("what isn't there", feast("100+washes+age+days+misses", 50), 50);
        pool = poolBy("let a=day;feast 0 to 9 by a*100;");
        pool.want(0, 0, 2, 3);
        pool.want(0, 1, 2, 3);
        due("day 2", pool.wanted(0, 2), 6);
        due("day 9", pool.wanted(0, 9), 27);
        due("day 9 of sort 1", pool.wanted(1, 9), 27);
        pool = poolBy("feast 0 to 9 by sort*life*worth+grams;");
        pool.want(0, 1, 2, 1);
        due("790 and 25 by 100", pool.wanted(1, 2), 8);
    }
}
