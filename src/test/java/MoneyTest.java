/** Promises 31 to 36: prices, bills, parts of a loss, sheets due, wants. */
public final class MoneyTest {
    private static final Check CHECK = new Check();

    public static void main(String[] args) {
        prices();
        pricesByWhatHolds();
        bills();
        billsByDays();
        parts();
        partsOfRests();
        partsByWhatHolds();
        due();
        dueByTerms();
        wants();
        feasts();
        feastsByWhatHolds();
        CHECK.end();
    }

    private static LinenPool pool() {
        LinenPool pool = new LinenPool();
        pool.sort(10, 0, 5, 20, 100);
        pool.sort(25, 1, 8, 1, 79);
        pool.house(1, 3, 4, 60);
        pool.house(2, 10, 0, 100);
        pool.sheet(0, 0);
        pool.sheet(1, 1);
        return pool;
    }

    private static void prices() {
        LinenPool pool = pool();
        CHECK.due("31: WORTH by 20", pool.price(0, 0), 5);
        CHECK.due("31: cut", pool.price(1, 0), 3);
        Texts.take(pool, "retire=1;");
        CHECK.due("31: terms without a price", pool.price(1, 1), 3);
        Texts.take(pool, "price 0=11;");
        CHECK.due("31: of that SORT", pool.price(0, 0), 11);
        CHECK.due("31: none of that SORT", pool.price(1, 0), 3);
        Texts.take(pool, "price=2;price 0=3;price=4;");
        CHECK.due("31: that of the SORT ahead of a later one", pool.price(0, 0), 3);
        CHECK.due("31: the last without a NUMBER", pool.price(1, 0), 4);
        Texts.take(pool, "price 1=6;price 1=7;price 999999999=8;");
        CHECK.due("31: the last of that SORT", pool.price(1, 0), 7);
        CHECK.due("31: of none there", pool.price(0, 0), 5);
        Texts.take(pool, "price=-1;price 1=999999999*1000000;");
        CHECK.due("31: 0 at least", pool.price(0, 0), 0);
        CHECK.due("31: 10 to the 12 at most", pool.price(1, 0), 1_000_000_000_000L);
        CHECK.due("31: no sheet", pool.price(2, 0), -1);
        CHECK.due("31: no sheet", pool.price(-1, 0), -1);
        CHECK.due("31: no house", pool.price(0, 2), -1);
        CHECK.due("31: no house", pool.price(0, -1), -1);
    }

    private static void pricesByWhatHolds() {
        LinenPool pool = pool();
        pool.day(6);
        pool.move(0, 1, 2);
        pool.move(0, 2, 0);
        pool.move(0, 3, 10);
        pool.bag(0, 5);
        Texts.take(pool, "price=washes*1000+age*100+kind*10+days+misses;");
        CHECK.due("31: the house's kind, days and misses 0", pool.price(0, 1), 1620);
        CHECK.due("31: at the house where it is", pool.price(0, 0), 1610);
        Texts.take(pool, "price=day*1000000+worth*1000+life*10+sort+grams*0;");
        CHECK.due("31: the sort, the day", pool.price(1, 0), 6_079_011);
    }

    private static void bills() {
        LinenPool pool = pool();
        pool.day(5);
        pool.move(0, 1, 10);
        pool.move(0, 3, 10);
        pool.move(1, 3, 10);
        pool.move(1, 4, 11);
        pool.move(0, 5, 1);
        CHECK.due("32: all", pool.bill(0, 0, 1000, 5), 13);
        CHECK.due("32: the other house", pool.bill(1, 0, 1000, 5), 3);
        CHECK.due("32: from a day", pool.bill(0, 2, 1000, 5), 8);
        CHECK.due("32: to a day", pool.bill(0, 0, 2, 5), 5);
        CHECK.due("32: of a day", pool.bill(0, 3, 3, 5), 8);
        CHECK.due("32: not known", pool.bill(0, 0, 1000, 4), 0);
        CHECK.due("32: from above to", pool.bill(0, 3, 1, 5), 0);
        pool.day(6);
        pool.undo(1);
        CHECK.due("32: one is undone", pool.bill(0, 0, 1000, 6), 8);
        CHECK.due("32: it was known", pool.bill(0, 0, 1000, 5), 13);
        CHECK.due("32: no house", pool.bill(2, 0, 5, 5), -1);
        CHECK.due("32: no house", pool.bill(-1, 0, 5, 5), -1);
        CHECK.due("32: no day from", pool.bill(0, -1, 5, 5), -1);
        CHECK.due("32: no day to", pool.bill(0, 0, 1001, 5), -1);
        CHECK.due("32: no known day", pool.bill(0, 0, 5, 1001), -1);
        CHECK.due("32: no day, from above to", pool.bill(0, 1001, 5, 5), -1);
    }

    private static void billsByDays() {
        LinenPool pool = pool();
        pool.day(4);
        Texts.take(pool, "price=100+washes*10+age;");
        pool.day(9);
        pool.move(0, 3, 10);
        CHECK.due("32: terms aren't in force ahead", pool.bill(0, 0, 9, 9), 5);
        pool.move(0, 6, 10);
        CHECK.due("32: by that day", pool.bill(0, 6, 6, 9), 106);
        pool.move(0, 6, 2);
        pool.move(0, 6, 0);
        CHECK.due("32: all moves of the day, too", pool.bill(0, 6, 6, 9), 116);
        pool.move(0, 7, 2);
        pool.move(0, 8, 0);
        CHECK.due("32: none of later days", pool.bill(0, 6, 6, 9), 116);
        pool.move(0, 9, 10);
        CHECK.due("32: two by then", pool.bill(0, 9, 9, 9), 129);
        Texts.take(pool, "price=1;");
        CHECK.due("32: other terms TODAY", pool.bill(0, 9, 9, 9), 1);
        CHECK.due("32: not for days ahead", pool.bill(0, 6, 6, 9), 116);
        pool.day(10);
        pool.undo(3);
        CHECK.due("32: washes as known", pool.bill(0, 6, 6, 10), 106);
        CHECK.due("32: washes as known earlier", pool.bill(0, 6, 6, 9), 116);
    }

    /** A pool with a SHEET in DOUBT, whose VALUE is as told, its LIFE 1. */
    private static LinenPool losing(int value, String text) {
        LinenPool pool = new LinenPool();
        pool.sort(1, 0, 1, 1, value);
        pool.house(2, 0, 0, 0);
        pool.house(0, 0, 0, 0);
        pool.sheet(0, 0);
        Texts.take(pool, text);
        pool.beyond(2);
        pool.move(0, 0, 10);
        pool.day(3);
        pool.bag(0, 3);
        return pool;
    }

    private static void parted(int value, String text, long house, long works, long pool) {
        LinenPool losing = losing(value, text);
        long[] due = {house, works, pool};
        for (int who = 0; who < 3; who++) {
            CHECK.due("33: " + value + " by " + text + " to " + who, losing.part(0, who, 3, 3), due[who]);
        }
    }

    private static void parts() {
        LinenPool pool = losing(7, "");
        CHECK.due("33: the house's without", pool.part(0, 0, 3, 3), 7);
        CHECK.due("33: not the works'", pool.part(0, 1, 3, 3), 0);
        CHECK.due("33: ahead of the bag", pool.part(0, 0, 2, 3), 0);
        CHECK.due("33: not known", pool.part(0, 0, 3, 2), 0);
        CHECK.due("33: of the other house", pool.part(1, 0, 3, 3), 0);
        CHECK.due("33: no house", pool.part(2, 0, 3, 3), -1);
        CHECK.due("33: no house", pool.part(-1, 0, 3, 3), -1);
        CHECK.due("33: who -1", pool.part(0, -1, 3, 3), -1);
        CHECK.due("33: who 3", pool.part(0, 3, 3, 3), -1);
        CHECK.due("33: no day", pool.part(0, 0, 1001, 3), -1);
        CHECK.due("33: no known day", pool.part(0, 0, 3, -1), -1);
        pool.move(0, 0, 2);
        pool.move(0, 0, 0);
        pool.move(0, 1, 10);
        CHECK.due("33: worn out", pool.part(0, 0, 3, 3), 0);
        LinenPool worn = pool();
        worn.beyond(2);
        worn.move(0, 0, 2);
        worn.move(0, 0, 0);
        worn.move(0, 0, 10);
        worn.move(1, 0, 10);
        worn.day(2);
        worn.bag(0, 1);
        CHECK.due("33: 95 and 79", worn.part(0, 0, 2, 2), 174);
        Texts.take(worn, "loss house=0;loss pool=1;");
        CHECK.due("33: by terms in force on that day", worn.part(0, 2, 2, 2), 174);
        CHECK.due("33: not on the day ahead", worn.part(0, 0, 1, 2), 174);
    }

    private static void partsOfRests() {
        parted(7, "loss house=5;loss works=3;loss pool=2;", 4, 2, 1);
        parted(7, "loss house=1;loss works=2;loss pool=3;", 1, 2, 4);
        parted(7, "loss house=2;loss works=2;loss pool=1;", 3, 3, 1);
        parted(7, "loss house=1;loss works=3;loss pool=1;", 2, 4, 1);
        parted(7, "loss house=3;loss works=1;loss pool=1;", 4, 2, 1);
        parted(8, "loss house=1;loss works=1;loss pool=1;", 3, 3, 2);
        parted(7, "loss house=1;loss works=1;loss pool=1;", 3, 2, 2);
        parted(7, "loss works=1;", 4, 3, 0);
        parted(7, "loss house=0;", 0, 0, 7);
        parted(7, "loss house=-5;loss works=-1;", 0, 0, 7);
        parted(7, "loss house=-5;loss works=1;", 0, 7, 0);
        parted(7, "loss house=1;loss house=0;loss works=2;", 0, 7, 0);
        parted(1000, "loss house=1000000*1000000;loss works=1000000*1000000;loss pool=1000000*1000000;",
            334, 333, 333);
        parted(1, "loss house=0;loss works=1;loss pool=1;", 0, 1, 0);
    }

    private static void partsByWhatHolds() {
        parted(100, "loss house=kind;loss works=days;loss pool=misses+day+age-worth+93;", 40, 60, 0);
        parted(100, "let a=misses;loss house=a;loss works=a*3;", 25, 75, 0);
    }

    private static void due() {
        LinenPool pool = pool();
        pool.sheet(1, 0);
        pool.move(1, 0, 2);
        CHECK.due("34: none yet", pool.due(0), -1);
        pool.move(1, 0, 0);
        pool.move(2, 0, 2);
        pool.move(2, 0, 0);
        CHECK.due("34: washes of life", pool.due(0), 1);
        CHECK.due("34: the second", pool.due(1), 2);
        CHECK.due("34: no third", pool.due(2), -1);
        CHECK.due("34: k below 0", pool.due(-1), -1);
        pool.move(1, 0, 10);
        CHECK.due("34: in STOCK alone", pool.due(0), 2);
        Texts.take(pool, "price=1;");
        CHECK.due("34: terms without a retire", pool.due(0), 2);
    }

    private static void dueByTerms() {
        LinenPool pool = pool();
        Texts.take(pool, "retire=0;retire=worth-79;");
        CHECK.due("34: above 0", pool.due(0), 0);
        CHECK.due("34: 0 isn't", pool.due(1), -1);
        pool.day(2);
        pool.move(0, 1, 10);
        CHECK.due("34: not at a HOUSE", pool.due(0), -1);
        Texts.take(pool, "retire=day+age+kind+days+misses-3;");
        CHECK.due("34: days and kind 0 in STOCK", pool.due(0), 1);
        Texts.take(pool, "retire=age-2;");
        CHECK.due("34: those in force TODAY", pool.due(0), -1);
    }

    private static void wants() {
        LinenPool pool = pool();
        CHECK.due("35: least", pool.want(0, 0, 0, 0), true);
        CHECK.due("35: most", pool.want(1, 1, 6, 50), true);
        int[][] wrong = {{2, 0, 0, 1}, {-1, 0, 0, 1}, {0, 2, 0, 1}, {0, -1, 0, 1}, {0, 0, -1, 1}, {0, 0, 7, 1},
            {0, 0, 0, -1}, {0, 0, 0, 51}};
        for (int[] one : wrong) {
            CHECK.due("35: not as told", pool.want(one[0], one[1], one[2], one[3]), false);
        }
        pool.want(0, 1, 6, 3);
        CHECK.due("36: of all houses", pool.wanted(1, 6), 53);
        CHECK.due("36: each week", pool.wanted(1, 13), 53);
        CHECK.due("36: another day", pool.wanted(1, 7), 0);
        CHECK.due("36: another sort", pool.wanted(0, 6), 0);
        pool.want(1, 1, 6, 4);
        CHECK.due("36: told anew", pool.wanted(1, 6), 7);
        pool.want(0, 0, 2, 9);
        CHECK.due("36: 1,010 is a day", pool.wanted(0, 1010), 9);
        CHECK.due("36: 1,011 isn't", pool.wanted(0, 1011), -1);
        CHECK.due("36: nor -1", pool.wanted(0, -1), -1);
        CHECK.due("36: no sort", pool.wanted(2, 0), -1);
        CHECK.due("36: no sort", pool.wanted(-1, 0), -1);
    }

    private static void feasts() {
        LinenPool pool = pool();
        for (int day = 0; day < 7; day++) {
            pool.want(0, 0, day, 5);
            pool.want(1, 0, day, 3);
        }
        Texts.take(pool, "feast 3 to 4 by 150;feast 4 to 6 by 0-1;feast 9 to 8 by 0;feast 10 to 10 by 999999999;");
        int[] due = {8, 8, 8, 11, 11, 0, 0, 8, 8, 8, 2000, 8};
        for (int day = 0; day < due.length; day++) {
            CHECK.due("36: feast, day " + day, pool.wanted(0, day), due[day]);
        }
        pool.day(4);
        Texts.take(pool, "feast 0 to 1000 by 200;");
        CHECK.due("36: those in force on that day", pool.wanted(0, 3), 11);
        CHECK.due("36: those taken later", pool.wanted(0, 4), 16);
        CHECK.due("36: a day to come", pool.wanted(0, 1000), 16);
        CHECK.due("36: behind the feast", pool.wanted(0, 1001), 8);
        Texts.take(pool, "feast 5 to 5 by 59;feast 5 to 5 by 99;");
        CHECK.due("36: cut for each house, the first such", pool.wanted(0, 5), 3);
    }

    private static void feastsByWhatHolds() {
        LinenPool pool = pool();
        pool.want(0, 1, 6, 1);
        pool.day(3);
        Texts.take(pool, "feast 0 to 1000 by 100*(kind*1+sort*2+grams*4);");
        CHECK.due("36: kind, sort, grams", pool.wanted(1, 6), 1 + 2 + 100);
        Texts.take(pool, "feast 0 to 1000 by 100*(life+worth+day*10);");
        CHECK.due("36: life, worth, day", pool.wanted(1, 6), 1 + 79 + 60);
        Texts.take(pool, "feast 0 to 1000 by 100*(washes+age+days+misses);");
        CHECK.due("36: what isn't there is 0", pool.wanted(1, 6), 0);
        Texts.take(pool, "let a=kind*300;feast 0 to 1000 by a;");
        CHECK.due("36: a name", pool.wanted(1, 6), 3);
    }
}
