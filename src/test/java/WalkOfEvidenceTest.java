import java.io.IOException;

/** "==== 2." of the document: each sentence in its order, and calls that would tell if it were broken. */
public final class WalkOfEvidenceTest {
    private static final Check CHECK = new Check();
    private static Document doc;

    public static void main(String[] args) throws IOException {
        doc = new Document(CHECK, "==== 2. BAGS", "==== 3. TERMS");
        bags();
        read();
        missed();
        misses();
        missesTwelveAtMost();
        doubt();
        beyond();
        counts();
        shortage();
        loads();
        ways();
        doc.end();
        CHECK.end();
    }

    private static void due(String call, long got, long want) {
        CHECK.due(call, got, want);
    }

    private static void due(String call, boolean got, boolean want) {
        CHECK.due(call, got, want);
    }

    /** SORTS 0 and 1, HOUSES 0 and 1, a SHEET of each SORT from LOTS 0 and 1. */
    private static LinenPool pool() {
        LinenPool pool = new LinenPool();
        pool.sort(10, 0, 5, 20, 100);
        pool.sort(25, 1, 8, 10, 60);
        pool.house(1, 3, 4, 60);
        pool.house(2, 10, 0, 100);
        pool.sheet(0, 0);
        pool.sheet(1, 1);
        return pool;
    }

    private static void bags() {
        doc.says("==== 2. BAGS, up to 60:");
        LinenPool pool = pool();
        for (int i = 0; i < 60; i++) {
            due("bag " + i, pool.bag(i % 2, 0), i);
        }
        due("a 61st", pool.bag(0, 0), -1);
        due("60 are there", pool.count(5), 60);
        due("none can be read in a 61st", pool.read(60, 0), -1);

        doc.says("of a HOUSE on a DAY up to TODAY,");
        pool = pool();
        pool.day(3);
        due("house -1", pool.bag(-1, 1), -1);
        due("house 2 isn't there", pool.bag(2, 1), -1);
        due("day -1", pool.bag(0, -1), -1);
        due("tomorrow", pool.bag(0, 4), -1);
        due("today", pool.bag(0, 3), 0);
        due("day 0", pool.bag(1, 0), 1);

        doc.says("KNOWN as told.");
        pool = pool();
        pool.move(0, 0, 10);
        pool.day(5);
        pool.bag(0, 2);
        due("as known by 4", pool.misses(0, 5, 4), 0);
        due("by 5", pool.misses(0, 5, 5), 1);
        due("by 1,000", pool.misses(0, 5, 1000), 1);
    }

    private static void read() {
        doc.says("A SHEET READ in one MOVES to SOILED on its DAY.");
        LinenPool pool = pool();
        pool.move(0, 0, 10);
        pool.day(6);
        pool.bag(0, 4);
        due("the move's number", pool.read(0, 0), 1);
        due("its sheet", pool.told(1, 10), 0);
        due("its day", pool.told(1, 11), 4);
        due("its place", pool.told(1, 12), 1);
        due("it's told today", pool.told(1, 13), 6);
        due("where it was on 3", pool.where(0, 3, 6), 10);
        due("on 4", pool.where(0, 4, 6), 1);
        due("as known by 5", pool.where(0, 6, 5), 10);
        due("a sheet that is elsewhere may be read too", pool.read(0, 1), 2);
        due("and is soiled then", pool.where(1, 4, 6), 1);
    }

    private static void missed() {
        doc.says("A LOT's tags are MISSED 0 to 15 times of 16 (1 at first).");
        LinenPool pool = pool();
        due("lot -1", pool.lot(-1, 1), false);
        due("lot 4", pool.lot(4, 1), false);
        due("-1 times", pool.lot(0, -1), false);
        due("16 times", pool.lot(0, 16), false);
        pool.beyond(15);
        pool.move(0, 0, 10);
        pool.move(1, 0, 10);
        pool.day(1);
        pool.bag(0, 1);
        due("1 times 15 is less than 16", pool.doubt(0, 1, 1), 1);
        pool.beyond(16);
        due("1 times 16 isn't", pool.doubt(0, 1, 1), 0);
        due("0 times", pool.lot(0, 0), true);
        due("0 times 16 is", pool.doubt(0, 1, 1), 1);
        due("lot 1 is as it was", pool.doubt(1, 1, 1), 0);
        pool.beyond(2);
        due("15 times", pool.lot(1, 15), true);
        due("15 times 2 isn't", pool.doubt(1, 1, 1), 0);
        due("7 times", pool.lot(1, 7), true);
        due("7 times 2 is", pool.doubt(1, 1, 1), 1);
        due("8 times", pool.lot(1, 8), true);
        due("8 times 2 isn't", pool.doubt(1, 1, 1), 0);
    }

    private static void misses() {
        doc.says("MISSES of a SHEET at a HOUSE: how many BAGS of that HOUSE, KNOWN,");
        LinenPool pool = pool();
        pool.move(0, 0, 10);
        pool.day(9);
        pool.bag(0, 3);
        pool.bag(1, 4);
        pool.bag(0, 3);
        due("two of house 0", pool.misses(0, 9, 9), 2);
        due("at no house", pool.misses(1, 9, 9), 0);
        due("none known by 8", pool.misses(0, 9, 8), 0);

        doc.says("of DAYS behind SINCE, up to d");
        due("up to 3", pool.misses(0, 3, 9), 2);
        due("up to 2", pool.misses(0, 2, 9), 0);
        pool.move(0, 3, 10);
        due("since 3", pool.misses(0, 9, 9), 0);
        pool.bag(0, 4);
        due("4 is behind", pool.misses(0, 9, 9), 1);
        due("up to 3 again", pool.misses(0, 3, 9), 0);
        pool.move(0, 9, 11);
        due("at house 1 since 9", pool.misses(0, 9, 9), 0);
        due("at house 0 up to 8", pool.misses(0, 8, 9), 1);
    }

    private static void missesTwelveAtMost() {
        doc.says("(12 at most).");
        LinenPool pool = pool();
        pool.move(0, 0, 10);
        pool.day(20);
        for (int i = 1; i <= 20; i++) {
            pool.bag(0, i);
            due("misses by " + i + " bags", pool.misses(0, 20, 20), Math.min(i, 12));
        }
        due("up to 12", pool.misses(0, 12, 20), 12);
        due("up to 11", pool.misses(0, 11, 20), 11);
    }

    private static void doubt() {
        doc.says("In DOUBT: MISSED to the power of MISSES times BEYOND");
        LinenPool pool = pool();
        pool.move(0, 0, 10);
        pool.day(9);
        // 8 of 16 each, so that MISSES double what BEYOND may be: less than 2 to that power
        pool.lot(0, 8);
        for (int i = 1; i <= 9; i++) {
            pool.bag(0, i);
            pool.beyond(Math.max(2, (1 << i) - 1));
            due("beyond just less than 2 to the " + i, pool.doubt(0, 9, 9), i == 1 ? 0 : 1);
            pool.beyond(1 << i);
            due("beyond 2 to the " + i, pool.doubt(0, 9, 9), 0);
        }
    }

    private static void beyond() {
        doc.says("(2 to 10,000; 100 at first)");
        LinenPool pool = pool();
        due("beyond 1", pool.beyond(1), false);
        due("beyond 10,001", pool.beyond(10_001), false);
        due("beyond 2", pool.beyond(2), true);
        due("beyond 10,000", pool.beyond(10_000), true);
        pool = pool();
        pool.move(0, 0, 10);
        pool.day(9);
        pool.bag(0, 1);
        due("1 times 100 isn't less than 16", pool.doubt(0, 9, 9), 0);
        pool.bag(0, 2);
        due("1 times 100 is less than 256", pool.doubt(0, 9, 9), 1);
        pool.lot(0, 2);
        due("4 times 100 isn't", pool.doubt(0, 9, 9), 0);

        doc.says("is less than 16 to that power.");
        pool.beyond(64);
        due("4 times 64 is 256", pool.doubt(0, 9, 9), 0);
        pool.beyond(63);
        due("4 times 63 is less", pool.doubt(0, 9, 9), 1);
        due("with one miss 2 times 63 isn't", pool.doubt(0, 1, 9), 0);
        pool.lot(0, 0);
        pool.beyond(2);
        due("without any a 1 stands on both sides", pool.doubt(0, 0, 9), 0);
        due("with one 0 is less than 16", pool.doubt(0, 1, 9), 1);
        due("in stock it's never", pool.doubt(1, 9, 9), 0);
    }

    private static void counts() {
        doc.says("```text COUNTS, up to 60:");
        LinenPool pool = pool();
        for (int i = 1; i <= 60; i++) {
            due("count " + i, pool.counted(1, 1, 0, 0), i);
        }
        pool.move(0, 0, 10);
        due("a 61st", pool.counted(0, 0, 0, 0), -1);
        due("wasn't told", pool.shortOf(0, 0, 0, 0), 0);
        due("60 are there", pool.count(11), 60);

        doc.says("so many SHEETS of a SORT were at a HOUSE on a DAY up to TODAY,");
        pool = pool();
        pool.move(0, 0, 10);
        pool.day(4);
        due("-1 of them", pool.counted(0, 0, 0, -1), -1);
        due("1,001", pool.counted(0, 0, 0, 1001), -1);
        due("sort 2 isn't there", pool.counted(0, 2, 0, 0), -1);
        due("house 2 isn't there", pool.counted(2, 0, 0, 0), -1);
        due("day -1", pool.counted(0, 0, -1, 0), -1);
        due("tomorrow", pool.counted(0, 0, 5, 0), -1);
        due("none was told", pool.shortOf(0, 0, 4, 4), 0);
        due("1,000 today", pool.counted(0, 0, 4, 1000), 1);
        due("of sort 1", pool.counted(0, 1, 4, 0), 2);
        due("at house 1", pool.counted(1, 0, 4, 0), 3);
        due("nor is any of these", pool.shortOf(0, 0, 4, 4), 0);
        due("none of sort 0", pool.counted(0, 0, 4, 0), 4);
        due("one is short", pool.shortOf(0, 0, 4, 4), 1);

        doc.says("KNOWN as told.");
        due("not as known by 3", pool.shortOf(0, 0, 4, 3), 0);
        due("by 5", pool.shortOf(0, 0, 4, 5), 1);
    }

    private static void shortage() {
        doc.says("SHORT: of those of it KNOWN by k, of DAYS up to d,");
        LinenPool pool = pool();
        pool.sheet(0, 0);
        pool.sheet(0, 0);
        pool.day(3);
        pool.move(0, 1, 10);
        pool.move(2, 2, 10);
        pool.move(3, 3, 10);
        pool.day(5);
        pool.counted(0, 0, 2, 1);
        pool.day(6);
        pool.counted(0, 0, 4, 1);
        due("3 there on 4, 1 counted", pool.shortOf(0, 0, 6, 6), 2);
        due("by 5: 2 there on 2, 1 counted", pool.shortOf(0, 0, 6, 5), 1);
        due("by 4", pool.shortOf(0, 0, 6, 4), 0);
        due("up to 4", pool.shortOf(0, 0, 4, 6), 2);
        due("up to 3", pool.shortOf(0, 0, 3, 6), 1);
        due("up to 1", pool.shortOf(0, 0, 1, 6), 0);

        doc.says("the greatest of how many were there on that DAY (as KNOWN by k) less what was counted;");
        pool.counted(0, 0, 4, 2);
        pool.counted(0, 0, 1, 1);
        due("neither the latest nor the sum", pool.shortOf(0, 0, 6, 6), 2);
        pool.day(7);
        pool.undo(1);
        due("one of them wasn't there, as known by 7", pool.shortOf(0, 0, 7, 7), 1);
        due("it was, as known by 6", pool.shortOf(0, 0, 7, 6), 2);
        pool.move(2, 2, 10);
        pool.move(3, 4, 1);
        due("another wasn't there on 4, as known by 7", pool.shortOf(0, 0, 7, 7), 1);

        doc.says("0 at least.");
        pool.counted(0, 1, 7, 5);
        due("more counted than were there", pool.shortOf(0, 1, 7, 7), 0);
        due("no count of them", pool.shortOf(1, 1, 7, 7), 0);
    }

    /** A pool whose HOUSE 0 has so many SHEETS of so many GRAMS each. */
    private static LinenPool poolWith(int sheets, int grams) {
        LinenPool pool = new LinenPool();
        pool.sort(grams, 0, 5, 20, 100);
        pool.house(0, 0, 0, 0);
        for (int i = 0; i < sheets; i++) {
            pool.sheet(0, 0);
            pool.move(i, 0, 10);
        }
        return pool;
    }

    private static void loads() {
        doc.says("A LOAD from a HOUSE of a WEIGHT (0 to 9,000),");
        LinenPool pool = poolWith(150, 60);
        due("-1", pool.load(0, -1, 0, 0, -1), -2);
        due("9,001", pool.load(0, 9001, 0, 0, -1), -2);
        due("house 1 isn't there", pool.load(1, 60, 0, 0, -1), -2);
        due("9,000", pool.load(0, 9000, 0, 0, 0), 150);
        due("0", pool.load(0, 0, 0, 0, 1), 0);
        due("0 in one way", pool.load(0, 0, 0, 0, -1), 1);

        doc.says("p to q hundredths of damp (0 <= p <= q <= 200):");
        due("p -1", pool.load(0, 60, -1, 0, -1), -2);
        due("p above q", pool.load(0, 60, 2, 1, -1), -2);
        due("q 201", pool.load(0, 60, 0, 201, -1), -2);
        due("both 200", pool.load(0, 180, 200, 200, 0), 1);
        due("both 0", pool.load(0, 180, 0, 0, 0), 3);
        due("between", pool.load(0, 180, 0, 200, -1), 3);

        doc.says("dry it's from WEIGHT times 100 by (100 and q), cut up,");
        pool = poolWith(150, 1);
        due("1,000 by 101 is 9.9", pool.load(0, 10, 0, 1, 0), 10);
        due("1,000 by 100", pool.load(0, 10, 0, 0, 0), 10);
        due("1,100 by 110 is 10", pool.load(0, 11, 0, 10, 0), 10);
        due("1,100 by 111 is 9.9", pool.load(0, 11, 0, 11, 0), 10);
        due("1,100 by 109 is 10.1", pool.load(0, 11, 0, 9, 0), 11);

        doc.says("to that by (100 and p), cut.");
        due("1,100 by 101 is 10.9", pool.load(0, 11, 1, 200, 1), 10);
        due("1,100 by 110 is 10", pool.load(0, 11, 10, 200, 1), 10);
        due("1,100 by 111 is 9.9", pool.load(0, 11, 11, 200, 1), 9);
        due("from 10.9, cut up, to 10.9, cut", pool.load(0, 11, 1, 1, -1), -1);
    }

    private static void ways() {
        doc.says("Ways: of each SORT as many as are at the HOUSE NOW or fewer,");
        LinenPool pool = poolWith(3, 10);
        pool.sort(20, 0, 5, 20, 100);
        pool.house(0, 0, 0, 0);
        pool.sheet(1, 0);
        pool.sheet(1, 0);
        pool.sheet(1, 0);
        pool.move(3, 0, 10);
        pool.move(4, 0, 10);
        pool.move(5, 0, 11);
        // up to 3 of 10 and 2 of 20
        due("30 is 3 and 0, 1 and 1", pool.load(0, 30, 0, 0, -1), 2);
        due("least of sort 0", pool.load(0, 30, 0, 0, 0), 1);
        due("greatest of sort 0", pool.load(0, 30, 0, 0, 1), 3);
        due("least of sort 1", pool.load(0, 30, 0, 0, 2), 0);
        due("greatest of sort 1", pool.load(0, 30, 0, 0, 3), 1);
        due("70 is all", pool.load(0, 70, 0, 0, 0), 3);
        due("80 is more", pool.load(0, 80, 0, 0, -1), -1);
        due("at house 1 there is one", pool.load(1, 20, 0, 0, 3), 1);
        pool.day(1);
        pool.move(0, 1, 1);
        due("70 is more now", pool.load(0, 70, 0, 0, -1), -1);
        pool.undo(6);
        due("it's back", pool.load(0, 70, 0, 0, -1), 1);

        doc.says("GRAMS together within. ```");
        due("25 to 30", pool.load(0, 50, 66, 100, -1), 2);
        due("20 to 50: 20, 30, 40 and 50 in two ways each", pool.load(0, 50, 0, 150, -1), 8);
        due("24 to 70: all but 0, 10, and 20 in two ways", pool.load(0, 70, 0, 200, -1), 8);
    }
}
