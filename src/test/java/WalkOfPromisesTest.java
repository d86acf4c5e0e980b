import java.io.IOException;

/** The constants and each promise of the document in its order: what the call answers and when it is refused. */
public final class WalkOfPromisesTest {
    private static final Check CHECK = new Check();
    private static final long NO_VALUE = -2_000_000_000_000L;
    private static Document doc;

    public static void main(String[] args) throws IOException {
        doc = new Document(CHECK, "The constants:", null);
        newObject();
        sortsAndHouses();
        sheetsAndDays();
        moves();
        undo();
        whereAndSince();
        washesNightsMany();
        heats();
        lotsAndBeyond();
        bags();
        misses();
        counts();
        loads();
        feed();
        terms();
        writtenAndValue();
        prices();
        parts();
        wants();
        washersAndJobs();
        night();
        round();
        supplyAndBuy();
        told();
        count();
        doc.says("## Not promised How the state is held inside the object is free, as are the speed of each call,"
            + " the text of toString and the behaviour of equals and hashCode. Use of one object from several"
            + " threads at once is not promised to be safe. Nothing is promised beyond the answers and state"
            + " changes described above, and nothing about an object after its 512th call.");
        doc.end();
        CHECK.end();
    }

    private static void due(String call, long got, long want) {
        CHECK.due(call, got, want);
    }

    private static void due(String call, boolean got, boolean want) {
        CHECK.due(call, got, want);
    }

    /** SORTS 0 and 1, HOUSES 0 and 1, a SHEET of each SORT; TODAY is 5, since when SHEET 0 is at HOUSE 0. */
    private static LinenPool pool() {
        LinenPool pool = new LinenPool();
        pool.sort(10, 0, 5, 20, 100);
        pool.sort(25, 1, 8, 10, 60);
        pool.house(1, 3, 4, 60);
        pool.house(2, 10, 0, 100);
        pool.sheet(0, 0);
        pool.sheet(1, 1);
        pool.day(5);
        pool.move(0, 2, 10);
        return pool;
    }

    private static String counts(LinenPool pool) {
        StringBuilder counts = new StringBuilder();
        for (int what = 0; what <= 12; what++) {
            counts.append(pool.count(what)).append(' ');
        }
        return counts.toString();
    }

    private static void counts(String call, LinenPool pool, String want) {
        CHECK.due("counts behind " + call, counts(pool), want);
    }

    private static void newObject() {
        doc.says("The constants: `NONE = -1`: There is none.");
        due("NONE", LinenPool.NONE, -1);

        doc.says("## Promise 1: A new object `LinenPool()`: No SORTS, HOUSES, SHEETS, TERMS.");
        LinenPool pool = new LinenPool();
        counts("new", pool, "0 ".repeat(13));
        due("no sheet of sort 0", pool.sheet(0, 0), -1);
        due("no bag of house 0", pool.bag(0, 0), -1);
        due("no move of sheet 0", pool.move(0, 0, 0), -1);
        due("no byte of terms 0", pool.written(0, -1), -1);
        pool.sort(1, 0, 1, 1, 1);
        due("objects share nothing", new LinenPool().count(1), 0);
    }

    private static void sortsAndHouses() {
        doc.says("## Promise 2: sort `int sort(int grams, int kind, int dry, int life, int worth)`: A SORT: its"
            + " number. NONE, doing nothing: not as told, 6 are there.");
        LinenPool pool = new LinenPool();
        int[][] bad = {{0, 0, 1, 1, 1}, {61, 0, 1, 1, 1}, {1, -1, 1, 1, 1}, {1, 4, 1, 1, 1}, {1, 0, 0, 1, 1},
            {1, 0, 91, 1, 1}, {1, 0, 1, 0, 1}, {1, 0, 1, 251, 1}, {1, 0, 1, 1, 0}, {1, 0, 1, 1, 1001}};
        for (int i = 0; i < 6; i++) {
            for (int[] one : bad) {
                due("sort " + java.util.Arrays.toString(one), pool.sort(one[0], one[1], one[2], one[3], one[4]), -1);
            }
            due("sort " + i, pool.sort(60, 3, 90, 250, 1000), i);
        }
        due("a seventh", pool.sort(60, 3, 90, 250, 1000), -1);
        counts("six sorts", pool, "0 6 0 0 0 0 0 0 0 0 0 0 0 ");

        doc.says("## Promise 3: house `int house(int kind, int x, int y, int noon)`: A HOUSE: its number. NONE,"
            + " doing nothing: not as told, 8 are there.");
        pool = new LinenPool();
        int[][] badHouses = {{-1, 0, 0, 0}, {4, 0, 0, 0}, {0, -1, 0, 0}, {0, 100, 0, 0}, {0, 0, -1, 0}, {0, 0, 100, 0},
            {0, 0, 0, -1}, {0, 0, 0, 1441}};
        for (int i = 0; i < 8; i++) {
            for (int[] one : badHouses) {
                due("house " + java.util.Arrays.toString(one), pool.house(one[0], one[1], one[2], one[3]), -1);
            }
            due("house " + i, pool.house(3, 99, 99, 1440), i);
        }
        due("a ninth", pool.house(3, 99, 99, 1440), -1);
        counts("eight houses", pool, "0 0 8 0 0 0 0 0 0 0 0 0 0 ");
    }

    private static void sheetsAndDays() {
        doc.says("## Promise 4: sheet `int sheet(int sort, int lot)`: A SHEET: its number. NONE, doing nothing:"
            + " not as told, 150 are there.");
        LinenPool pool = pool();
        int[][] bad = {{-1, 0}, {2, 0}, {0, -1}, {0, 4}};
        for (int i = 2; i < 150; i++) {
            int[] one = bad[i % 4];
            due("sheet " + java.util.Arrays.toString(one), pool.sheet(one[0], one[1]), -1);
            due("sheet " + i, pool.sheet(i % 2, i % 4), i);
        }
        due("a 151st", pool.sheet(0, 0), -1);
        counts("150 sheets", pool, "5 2 2 150 1 0 0 0 0 0 0 0 0 ");

        doc.says("## Promise 5: day `boolean day(int d)`: TODAY becomes a later DAY: true; false, doing nothing:"
            + " it isn't, or above 1,000.");
        pool = pool();
        for (int d : new int[] {Integer.MIN_VALUE, -1, 0, 4, 5, 1001, Integer.MAX_VALUE}) {
            due("day " + d, pool.day(d), false);
            due("it's 5 behind day " + d, pool.count(0), 5);
        }
        due("day 6", pool.day(6), true);
        due("it's 6", pool.count(0), 6);
        due("day 1,000", pool.day(1000), true);
        counts("three days", pool, "1000 2 2 2 1 0 0 0 0 0 0 0 0 ");
    }

    private static void moves() {
        doc.says("## Promise 6: move `int move(int sheet, int day, int place)`: A MOVE: its number. NONE, doing"
            + " nothing: not as told, 600 are there.");
        LinenPool pool = pool();
        pool.sheet(0, 0);
        int[][] bad = {{-1, 5, 0}, {3, 5, 0}, {0, -1, 0}, {0, 6, 0}, {2, 4, 0}, {0, 5, -1}, {0, 5, 5}, {0, 5, 9},
            {0, 5, 12}};
        for (int[] one : bad) {
            due("move " + java.util.Arrays.toString(one), pool.move(one[0], one[1], one[2]), -1);
        }
        counts("refused moves", pool, "5 2 2 3 1 0 0 0 0 0 0 0 0 ");
        due("where it was", pool.where(0, 5, 5), 10);
        due("a move", pool.move(2, 5, 11), 1);
        due("another", pool.move(0, 0, 4), 2);
        for (int i = 3; i < 600; i++) {
            pool.move(1, 0, 1);
        }
        due("600 are there", pool.move(1, 0, 2), -1);
        due("the last was told", pool.told(599, 12), 1);
        due("where it was", pool.where(1, 5, 5), 1);
    }

    private static void undo() {
        doc.says("## Promise 7: undo `boolean undo(int move)`: A MOVE is UNDONE: true; false: none such, it is.");
        LinenPool pool = pool();
        due("undo -1", pool.undo(-1), false);
        due("undo 1", pool.undo(1), false);
        due("undo 0", pool.undo(0), true);
        due("undo 0 again", pool.undo(0), false);
        pool.day(6);
        due("undo 0 a day later", pool.undo(0), false);
        due("it was on 5", pool.told(0, 14), 5);
        counts("one undone", pool, "6 2 2 2 1 0 0 0 0 0 0 0 1 ");
    }

    private static void whereAndSince() {
        doc.says("## Promise 8: where `int where(int sheet, int day, int known)`: WHERE a SHEET is, up to a DAY,"
            + " as KNOWN by another one (0 to 1,000 each): its PLACE. NONE: none such, it hadn't come.");
        LinenPool pool = pool();
        pool.sheet(0, 0);
        int[][] asked = {{-1, 5, 5}, {3, 5, 5}, {0, -1, 5}, {0, 1001, 5}, {0, 5, -1}, {0, 5, 1001}, {2, 4, 5},
            {2, 5, 4}};
        for (int[] one : asked) {
            String of = java.util.Arrays.toString(one);
            due("where " + of, pool.where(one[0], one[1], one[2]), -1);
            due("since " + of, pool.since(one[0], one[1], one[2]), -1);
            due("washes " + of, pool.washes(one[0], one[1], one[2]), -1);
            due("nights " + of, pool.nights(one[0], 0, one[1], one[2]), -1);
            due("misses " + of, pool.misses(one[0], one[1], one[2]), -1);
            due("doubt " + of, pool.doubt(one[0], one[1], one[2]), -1);
        }
        due("where on 1", pool.where(0, 1, 5), 0);
        due("where on 2", pool.where(0, 2, 5), 10);
        due("where by 4", pool.where(0, 2, 4), 0);
        due("where on 1,000 by 1,000", pool.where(0, 1000, 1000), 10);

        doc.says("## Promise 9: since `int since(int sheet, int day, int known)`: SINCE likewise.");
        due("since on 1", pool.since(0, 1, 5), 0);
        due("since on 5", pool.since(0, 5, 5), 2);
        due("since by 4", pool.since(0, 5, 4), 0);
        due("since it came", pool.since(2, 1000, 1000), 5);
    }

    private static void washesNightsMany() {
        doc.says("## Promise 10: washes `int washes(int sheet, int day, int known)`: WASHES likewise.");
        LinenPool pool = pool();
        pool.move(0, 3, 2);
        pool.move(0, 4, 0);
        due("on 3", pool.washes(0, 3, 5), 0);
        due("on 4", pool.washes(0, 4, 5), 1);
        due("by 4", pool.washes(0, 4, 4), 0);

        doc.says("## Promise 11: nights `int nights(int sheet, int house, int day, int known)`: NIGHTS at a HOUSE"
            + " likewise.");
        due("day 2", pool.nights(0, 0, 5, 5), 1);
        due("by 4", pool.nights(0, 0, 5, 4), 0);
        due("at the other", pool.nights(0, 1, 5, 5), 0);
        due("house -1", pool.nights(0, -1, 5, 5), -1);
        due("house 2", pool.nights(0, 2, 5, 5), -1);

        doc.says("## Promise 12: many `int many(int place, int sort, int day, int known)`: How many SHEETS of a"
            + " SORT are at a PLACE likewise. NONE: no such PLACE, SORT, DAY.");
        due("in stock on 1", pool.many(0, 0, 1, 5), 1);
        due("at house 0 on 2", pool.many(10, 0, 2, 5), 1);
        due("by 4", pool.many(10, 0, 2, 4), 0);
        due("in the wash on 3", pool.many(2, 0, 3, 5), 1);
        pool.sheet(0, 0);
        due("two of sort 0 in stock", pool.many(0, 0, 5, 5), 2);
        due("which came today", pool.many(0, 0, 4, 5), 1);
        due("one of sort 1", pool.many(0, 1, 5, 5), 1);
        int[][] bad = {{-1, 0, 5, 5}, {5, 0, 5, 5}, {9, 0, 5, 5}, {12, 0, 5, 5}, {0, -1, 5, 5}, {0, 2, 5, 5},
            {0, 0, -1, 5}, {0, 0, 1001, 5}, {0, 0, 5, -1}, {0, 0, 5, 1001}};
        for (int[] one : bad) {
            due("many " + java.util.Arrays.toString(one), pool.many(one[0], one[1], one[2], one[3]), -1);
        }
    }

    private static void heats() {
        doc.says("## Promise 13: heat `int heat(int day, int degrees, int minutes)`: A HEAT: how many. NONE, doing"
            + " nothing: not as told, 60 are there.");
        LinenPool pool = pool();
        int[][] bad = {{-1, 0, 0}, {6, 0, 0}, {1, -1, 0}, {1, 121, 0}, {1, 0, -1}, {1, 0, 201}};
        for (int[] one : bad) {
            due("heat " + java.util.Arrays.toString(one), pool.heat(one[0], one[1], one[2]), -1);
        }
        for (int i = 1; i <= 60; i++) {
            due("heat " + i, pool.heat(3, 120, 200), i);
        }
        due("a 61st", pool.heat(1, 0, 0), -1);
        counts("60 heats", pool, "5 2 2 2 1 0 0 0 0 0 60 0 0 ");

        doc.says("## Promise 14: proven `int proven(int day, int known)`: Whether a DAY is PROVEN as KNOWN by"
            + " another one: 1, 0. NONE: none such.");
        due("3 by 5", pool.proven(3, 5), 1);
        due("3 by 4", pool.proven(3, 4), 0);
        due("1 by 5", pool.proven(1, 5), 0);
        due("1,000 by 1,000", pool.proven(1000, 1000), 0);
        due("-1", pool.proven(-1, 5), -1);
        due("1,001", pool.proven(1001, 5), -1);
        due("by -1", pool.proven(3, -1), -1);
        due("by 1,001", pool.proven(3, 1001), -1);

        doc.says("## Promise 15: unsafe `int unsafe(int k, int known)`: The k-th SHEET that is UNSAFE up to TODAY"
            + " as KNOWN by a DAY. NONE: none such.");
        for (int i = 2; i < 6; i++) {
            pool.sheet(0, 0);
            pool.move(i, 5, 2);
            pool.move(i, 5, i == 4 ? 1 : 0);
        }
        due("the first", pool.unsafe(0, 5), 2);
        due("the second", pool.unsafe(1, 5), 3);
        due("the third", pool.unsafe(2, 5), 5);
        due("no fourth", pool.unsafe(3, 5), -1);
        due("none by 4", pool.unsafe(0, 4), -1);
        due("the first by 1,000", pool.unsafe(0, 1000), 2);
        due("k -1", pool.unsafe(-1, 5), -1);
        due("by -1", pool.unsafe(0, -1), -1);
        due("by 1,001", pool.unsafe(0, 1001), -1);
    }

    private static void lotsAndBeyond() {
        doc.says("## Promise 16: lot `boolean lot(int lot, int missed)`: How often tags of a LOT are MISSED: true;"
            + " false: not as told.");
        LinenPool pool = pool();
        pool.bag(0, 4);
        pool.beyond(2);
        due("1 times 2 is less than 16", pool.doubt(0, 5, 5), 1);
        int[][] bad = {{-1, 8}, {4, 8}, {0, -1}, {0, 16}};
        for (int[] one : bad) {
            due("lot " + java.util.Arrays.toString(one), pool.lot(one[0], one[1]), false);
        }
        due("lot 1", pool.lot(1, 8), true);
        due("still", pool.doubt(0, 5, 5), 1);
        due("lot 0", pool.lot(0, 8), true);
        due("8 times 2 isn't", pool.doubt(0, 5, 5), 0);

        doc.says("## Promise 17: beyond `boolean beyond(int n)`: BEYOND: true; false: not as told.");
        pool.lot(0, 5);
        due("3", pool.beyond(3), true);
        due("5 times 3 is less", pool.doubt(0, 5, 5), 1);
        for (int n : new int[] {Integer.MIN_VALUE, -1, 0, 1, 10_001, Integer.MAX_VALUE}) {
            due("beyond " + n, pool.beyond(n), false);
            due("as it was behind " + n, pool.doubt(0, 5, 5), 1);
        }
        due("4", pool.beyond(4), true);
        due("5 times 4 isn't", pool.doubt(0, 5, 5), 0);
    }

    private static void bags() {
        doc.says("## Promise 18: bag `int bag(int house, int day)`: A BAG: its number. NONE, doing nothing: not as"
            + " told, 60 are there.");
        LinenPool pool = pool();
        int[][] bad = {{-1, 5}, {2, 5}, {0, -1}, {0, 6}};
        for (int[] one : bad) {
            due("bag " + java.util.Arrays.toString(one), pool.bag(one[0], one[1]), -1);
        }
        for (int i = 0; i < 60; i++) {
            due("bag " + i, pool.bag(1, i % 6), i);
        }
        due("a 61st", pool.bag(0, 5), -1);
        due("no miss by it", pool.misses(0, 5, 5), 0);
        counts("60 bags", pool, "5 2 2 2 1 60 0 0 0 0 0 0 0 ");

        doc.says("## Promise 19: read `int read(int bag, int sheet)`: A SHEET is READ in a BAG: the MOVE's number."
            + " Refused, doing nothing, at the first of: NONE none such; -2 it was (that MOVE isn't UNDONE); -3"
            + " it came behind that DAY; -4 600 MOVES are there.");
        pool.sheet(0, 0);
        due("bag -1", pool.read(-1, 0), -1);
        due("bag 60", pool.read(60, 0), -1);
        due("sheet -1", pool.read(0, -1), -1);
        due("sheet 3", pool.read(0, 3), -1);
        due("bag 4 of day 4, sheet 0", pool.read(4, 0), 1);
        due("again", pool.read(4, 0), -2);
        due("in another of that day", pool.read(10, 0), 2);
        due("another sheet", pool.read(4, 1), 3);
        due("undone", pool.undo(1), true);
        due("read again", pool.read(4, 0), 4);
        due("and again", pool.read(4, 0), -2);
        due("sheet 2 came on 5", pool.read(4, 2), -3);
        due("bag 5 is of 5", pool.read(5, 2), 5);
        for (int i = 6; i < 600; i++) {
            pool.move(1, 0, 1);
        }
        due("600 moves", pool.read(5, 1), -4);
        due("but it was", pool.read(5, 2), -2);
        due("but it came behind", pool.read(4, 2), -3);
        due("but none such", pool.read(60, 2), -1);
        counts("600 moves", pool, "5 2 2 3 600 60 0 0 0 0 0 0 1 ");
    }

    private static void misses() {
        doc.says("## Promise 20: misses `int misses(int sheet, int day, int known)`: MISSES of a SHEET up to a DAY"
            + " as KNOWN by another one (0 where it's at no HOUSE). NONE: none such, it hadn't come.");
        LinenPool pool = pool();
        pool.bag(0, 3);
        pool.bag(0, 4);
        due("on 4", pool.misses(0, 4, 5), 2);
        due("on 3", pool.misses(0, 3, 5), 1);
        due("on 2", pool.misses(0, 2, 5), 0);
        due("by 4", pool.misses(0, 4, 4), 0);
        due("in stock", pool.misses(1, 5, 5), 0);
        due("of none", pool.misses(2, 5, 5), -1);

        doc.says("## Promise 21: doubt `int doubt(int sheet, int day, int known)`: Whether it's in DOUBT likewise:"
            + " 1, 0.");
        due("100 is less than 256", pool.doubt(0, 4, 5), 1);
        due("100 isn't less than 16", pool.doubt(0, 3, 5), 0);
        due("by 4", pool.doubt(0, 4, 4), 0);
        due("in stock", pool.doubt(1, 5, 5), 0);
        due("of none", pool.doubt(2, 5, 5), -1);

        doc.says("## Promise 22: lost `int lost(int house, int sort, int day, int known)`: How many SHEETS of a"
            + " SORT at a HOUSE are in DOUBT likewise. NONE: none such.");
        pool.sheet(0, 0);
        pool.move(1, 2, 10);
        pool.move(2, 5, 10);
        due("of sort 0", pool.lost(0, 0, 5, 5), 1);
        due("of sort 1", pool.lost(0, 1, 5, 5), 1);
        due("on 3", pool.lost(0, 0, 3, 5), 0);
        due("by 4", pool.lost(0, 0, 5, 4), 0);
        due("at house 1", pool.lost(1, 0, 5, 5), 0);
        int[][] bad = {{-1, 0, 5, 5}, {2, 0, 5, 5}, {0, -1, 5, 5}, {0, 2, 5, 5}, {0, 0, -1, 5}, {0, 0, 1001, 5},
            {0, 0, 5, -1}, {0, 0, 5, 1001}};
        for (int[] one : bad) {
            String of = java.util.Arrays.toString(one);
            due("lost " + of, pool.lost(one[0], one[1], one[2], one[3]), -1);
            due("short of " + of, pool.shortOf(one[0], one[1], one[2], one[3]), -1);
        }
    }

    private static void counts() {
        doc.says("## Promise 23: counted `int counted(int house, int sort, int day, int n)`: A COUNT: how many"
            + " COUNTS. NONE, doing nothing: not as told (n 0 to 1,000), 60 are there.");
        LinenPool pool = pool();
        int[][] bad = {{-1, 0, 5, 0}, {2, 0, 5, 0}, {0, -1, 5, 0}, {0, 2, 5, 0}, {0, 0, -1, 0}, {0, 0, 6, 0},
            {0, 0, 5, -1}, {0, 0, 5, 1001}};
        for (int[] one : bad) {
            due("counted " + java.util.Arrays.toString(one), pool.counted(one[0], one[1], one[2], one[3]), -1);
        }
        due("none is short", pool.shortOf(0, 0, 5, 5), 0);
        due("1,000", pool.counted(0, 0, 5, 1000), 1);
        due("0", pool.counted(1, 1, 0, 0), 2);
        for (int i = 3; i <= 60; i++) {
            due("count " + i, pool.counted(0, 0, 5, 1), i);
        }
        due("a 61st", pool.counted(0, 0, 5, 0), -1);
        counts("60 counts", pool, "5 2 2 2 1 0 0 0 0 0 0 60 0 ");

        doc.says("## Promise 24: shortOf `int shortOf(int house, int sort, int day, int known)`: SHORT. NONE: none"
            + " such.");
        due("none is", pool.shortOf(0, 0, 5, 5), 0);
        pool.sheet(0, 0);
        pool.sheet(0, 0);
        pool.move(2, 5, 10);
        pool.move(3, 5, 10);
        due("3 less 1", pool.shortOf(0, 0, 5, 5), 2);
        due("on 4", pool.shortOf(0, 0, 4, 5), 0);
        due("by 4", pool.shortOf(0, 0, 5, 4), 0);
        due("of sort 1", pool.shortOf(0, 1, 5, 5), 0);
    }

    private static void loads() {
        doc.says("## Promise 25: load `int load(int house, int weight, int p, int q, int what)`: Of a LOAD: how"
            + " many ways (what NONE; 1,000,000 at most); the least (what 2 s) or the greatest (2 s and 1) number"
            + " of SORT s in any. NONE: no way; -2: not as told.");
        LinenPool pool = pool();
        pool.sheet(0, 0);
        pool.sheet(0, 0);
        pool.move(1, 5, 10);
        pool.move(2, 5, 10);
        pool.move(3, 5, 10);
        // 3 of 10 and 1 of 25: 0, 10, 20, 25, 30, 35, 45, 55
        due("20 to 40", pool.load(0, 40, 0, 100, -1), 4);
        due("least of sort 0", pool.load(0, 40, 0, 100, 0), 0);
        due("greatest of sort 0", pool.load(0, 40, 0, 100, 1), 3);
        due("least of sort 1", pool.load(0, 40, 0, 100, 2), 0);
        due("greatest of sort 1", pool.load(0, 40, 0, 100, 3), 1);
        due("least of sort 1 of 45", pool.load(0, 45, 0, 0, 2), 1);
        due("no way to 5", pool.load(0, 5, 0, 0, -1), -1);
        due("nor least in it", pool.load(0, 5, 0, 0, 0), -1);
        due("nor greatest in it", pool.load(0, 5, 0, 0, 3), -1);
        int[][] bad = {{-1, 5, 0, 0, -1}, {2, 5, 0, 0, -1}, {0, -1, 0, 0, -1}, {0, 9001, 0, 0, -1}, {0, 5, -1, 0, -1},
            {0, 5, 2, 1, -1}, {0, 5, 0, 201, -1}, {0, 5, 0, 0, -2}, {0, 5, 0, 0, 4}};
        for (int[] one : bad) {
            due("load " + java.util.Arrays.toString(one), pool.load(one[0], one[1], one[2], one[3], one[4]), -2);
        }
        LinenPool many = new LinenPool();
        many.house(0, 0, 0, 0);
        for (int i = 0; i < 6; i++) {
            many.sort(1, 0, 1, 1, 1);
        }
        for (int i = 0; i < 66; i++) {
            many.sheet(i % 6, 0);
            many.move(i, 0, 10);
        }
        // 2,985,984 ways in all, nearly all of them to 22 or more
        due("22 to 66 of 0 to 11 of 6 sorts", many.load(0, 66, 0, 200, -1), 1_000_000);
    }

    private static void feed() {
        doc.says("## Promise 26: feed `int feed(int a, int b, int c, int d, int e)`: Twenty bytes come behind"
            + " those on the tape, of each number the highest first: how many there are. NONE, doing nothing:"
            + " there would be more than 400.");
        LinenPool pool = pool();
        // "heat 1 for 2;" and blanks
        int[] text = {0x68656174, 0x20312066, 0x6f722032, 0x3b202020, 0x20202020};
        for (int i = 1; i <= 20; i++) {
            due("feed " + i, pool.feed(text[0], text[1], text[2], text[3], text[4]), 20 * i);
        }
        due("a 21st", pool.feed(0, 0, 0, 0, 0), -1);
        due("400 are there", pool.count(9), 400);
        due("20 times", pool.terms(400), 0);
        CHECK.due("written", Texts.written(pool, 0), "heat 1 for 2;".repeat(20));
        due("bytes beyond 127", pool.feed(-1, 0, 0, 0, 0), 20);
        due("begin no token", pool.terms(20), -1);
        due("the first", pool.fault(), 0);
    }

    private static void terms() {
        doc.says("## Promise 27: terms `int terms(int n)`: The first n bytes of the tape (which is empty then) are"
            + " TERMS from TODAY on: their number. NONE: a FAULT; -2, doing nothing: n is below 0 or more than"
            + " there are; -3, doing nothing: there are 8.");
        LinenPool pool = pool();
        due("no byte more", pool.terms(1), -2);
        due("no bytes", pool.terms(0), 0);
        Texts.feed(pool, "retire=1;price=7;");
        due("-1", pool.terms(-1), -2);
        due("21", pool.terms(21), -2);
        due("20 are there still", pool.count(9), 20);
        due("9", pool.terms(9), 1);
        due("none are there", pool.count(9), 0);
        CHECK.due("written", Texts.written(pool, 1), "retire=1;");
        due("no price was told", pool.price(0, 0), 5);
        Texts.feed(pool, "retire=1;price=;");
        due("a fault", pool.terms(16), -1);
        due("none are there either", pool.count(9), 0);
        due("two terms", pool.count(6), 2);
        for (int i = 2; i < 8; i++) {
            due("terms " + i, Texts.take(pool, "price=" + i + ";"), i);
        }
        Texts.feed(pool, "price=9;");
        due("8 are there", pool.terms(8), -3);
        due("20 bytes still", pool.count(9), 20);
        due("price by the eighth", pool.price(0, 0), 7);

        doc.says("## Promise 28: fault `int fault()`: The FAULT's place of the latest terms() that was a number or"
            + " NONE; NONE: it had none.");
        due("the eighth had none", pool.fault(), -1);
        pool = pool();
        due("none yet", pool.fault(), -1);
        Texts.take(pool, "price=;");
        due("at 6", pool.fault(), 6);
        pool.terms(1);
        pool.terms(-1);
        due("behind -2", pool.fault(), 6);
        Texts.take(pool, "heat?");
        due("at 4", pool.fault(), 4);
        pool.terms(0);
        due("behind a number", pool.fault(), -1);
    }

    private static void writtenAndValue() {
        doc.says("## Promise 29: written `int written(int terms, int i)`: Byte i of TERMS as they're WRITTEN; how"
            + " many (i NONE). NONE: none such.");
        LinenPool pool = pool();
        due("no terms", pool.written(0, -1), -1);
        Texts.take(pool, "let a = 01 ;");
        Texts.take(pool, "");
        due("8 bytes", pool.written(0, -1), 8);
        String text = "let a=1;";
        for (int i = 0; i < 8; i++) {
            due("byte " + i, pool.written(0, i), text.charAt(i));
        }
        due("byte 8", pool.written(0, 8), -1);
        due("byte -2", pool.written(0, -2), -1);
        due("none", pool.written(1, -1), 0);
        due("no first", pool.written(1, 0), -1);
        due("terms -1", pool.written(-1, -1), -1);
        due("terms 2", pool.written(2, -1), -1);

        doc.says("## Promise 30: value `long value(int sheet, int k)`: What the k-th NAME of TERMS in force TODAY"
            + " is for a SHEET as it is NOW. -2,000,000,000,000: none such.");
        due("no name", pool.value(0, 0), NO_VALUE);
        Texts.take(pool, "let a=days;price=1;let b=a+worth;");
        due("the first: 5 less 2", pool.value(0, 0), 3);
        due("the second", pool.value(0, 1), 103);
        due("of sheet 1 in stock", pool.value(1, 1), 60);
        due("no third", pool.value(0, 2), NO_VALUE);
        due("name -1", pool.value(0, -1), NO_VALUE);
        due("sheet -1", pool.value(-1, 0), NO_VALUE);
        due("sheet 2", pool.value(2, 0), NO_VALUE);
    }

    private static void prices() {
        doc.says("## Promise 31: price `long price(int sheet, int house)`: The PRICE, if a SHEET went to a HOUSE"
            + " TODAY. NONE: none such.");
        LinenPool pool = pool();
        due("100 by 20", pool.price(0, 1), 5);
        due("60 by 20", pool.price(1, 1), 3);
        due("no move was told", pool.count(4), 1);
        Texts.take(pool, "price=day*10+kind;");
        due("today, kind 2", pool.price(0, 1), 52);
        due("sheet -1", pool.price(-1, 0), -1);
        due("sheet 2", pool.price(2, 0), -1);
        due("house -1", pool.price(0, -1), -1);
        due("house 2", pool.price(0, 2), -1);

        doc.says("## Promise 32: bill `long bill(int house, int from, int to, int known)`: BILL of a HOUSE from a"
            + " DAY to another one, as KNOWN by a third. NONE: none such (from above to goes: 0).");
        pool.move(1, 5, 10);
        due("5 on 2, 51 on 5", pool.bill(0, 0, 1000, 1000), 56);
        due("2 alone", pool.bill(0, 2, 2, 5), 5);
        due("by 4", pool.bill(0, 0, 5, 4), 0);
        due("from 5 to 2", pool.bill(0, 5, 2, 5), 0);
        due("house 1", pool.bill(1, 0, 5, 5), 0);
        int[][] bad = {{-1, 0, 5, 5}, {2, 0, 5, 5}, {0, -1, 5, 5}, {0, 1001, 5, 5}, {0, 0, -1, 5}, {0, 0, 1001, 5},
            {0, 0, 5, -1}, {0, 0, 5, 1001}};
        for (int[] one : bad) {
            due("bill " + java.util.Arrays.toString(one), pool.bill(one[0], one[1], one[2], one[3]), -1);
        }
    }

    private static void parts() {
        doc.says("## Promise 33: part `long part(int house, int who, int day, int known)`: The part of LOST VALUES"
            + " of a HOUSE up to a DAY, as KNOWN by another one, of the house (who 0), the works (1), the pool"
            + " (2); by TERMS in force on that DAY. NONE: none such.");
        LinenPool pool = pool();
        pool.move(1, 2, 10);
        pool.bag(0, 3);
        pool.bag(0, 4);
        due("100 and 60", pool.part(0, 0, 5, 5), 160);
        Texts.take(pool, "loss house=1;loss works=2;loss pool=1-sort;");
        due("25 and 20", pool.part(0, 0, 5, 5), 45);
        due("50 and 40", pool.part(0, 1, 5, 5), 90);
        due("25 and 0", pool.part(0, 2, 5, 5), 25);
        due("by terms of 4: none", pool.part(0, 0, 4, 5), 160);
        due("up to 3 not in doubt", pool.part(0, 0, 3, 5), 0);
        due("by 4", pool.part(0, 0, 5, 4), 0);
        due("house 1", pool.part(1, 0, 5, 5), 0);
        int[][] bad = {{-1, 0, 5, 5}, {2, 0, 5, 5}, {0, -1, 5, 5}, {0, 3, 5, 5}, {0, 0, -1, 5}, {0, 0, 1001, 5},
            {0, 0, 5, -1}, {0, 0, 5, 1001}};
        for (int[] one : bad) {
            due("part " + java.util.Arrays.toString(one), pool.part(one[0], one[1], one[2], one[3]), -1);
        }

        doc.says("## Promise 34: due `int due(int k)`: The k-th SHEET DUE to be RETIRED. NONE: none such.");
        pool.sheet(0, 0);
        pool.sheet(1, 0);
        pool.sheet(0, 0);
        due("none", pool.due(0), -1);
        Texts.take(pool, "retire=1-sort;");
        due("the first", pool.due(0), 2);
        due("the second", pool.due(1), 4);
        due("no third", pool.due(2), -1);
        due("due -1", pool.due(-1), -1);
    }

    private static void wants() {
        doc.says("## Promise 35: want `boolean want(int house, int sort, int weekday, int pieces)`: WANTS of a"
            + " HOUSE on a day of the week: true; false: not as told.");
        LinenPool pool = pool();
        int[][] bad = {{-1, 0, 3, 9}, {2, 0, 3, 9}, {0, -1, 3, 9}, {0, 2, 3, 9}, {0, 0, -1, 9}, {0, 0, 7, 9},
            {0, 0, 3, -1}, {0, 0, 3, 51}};
        for (int[] one : bad) {
            due("want " + java.util.Arrays.toString(one), pool.want(one[0], one[1], one[2], one[3]), false);
        }
        due("none wanted", pool.wanted(0, 3), 0);
        due("want 9", pool.want(0, 0, 3, 9), true);
        due("want 50", pool.want(1, 0, 3, 50), true);
        due("want 8 instead of 9", pool.want(0, 0, 3, 8), true);

        doc.says("## Promise 36: wanted `int wanted(int sort, int day)`: What all HOUSES want of a SORT on a DAY"
            + " (0 to 1,010). NONE: none such.");
        due("8 and 50", pool.wanted(0, 3), 58);
        due("a week later", pool.wanted(0, 10), 58);
        due("on 1,010, 2 of the week", pool.wanted(0, 1010), 0);
        due("on 1,004, 3 of it", pool.wanted(0, 1004), 58);
        due("of sort 1", pool.wanted(1, 3), 0);
        due("sort -1", pool.wanted(-1, 3), -1);
        due("sort 2", pool.wanted(2, 3), -1);
        due("day -1", pool.wanted(0, -1), -1);
        due("day 1,011", pool.wanted(0, 1011), -1);
    }

    private static void washersAndJobs() {
        doc.says("## Promise 37: washer `int washer(int load, int minutes, int change)`: A WASHER: its number."
            + " NONE, doing nothing: not as told, 3 are there.");
        LinenPool pool = pool();
        int[][] bad = {{0, 1, 0}, {5001, 1, 0}, {1, 0, 0}, {1, 201, 0}, {1, 1, -1}, {1, 1, 101}};
        for (int i = 0; i < 3; i++) {
            for (int[] one : bad) {
                due("washer " + java.util.Arrays.toString(one), pool.washer(one[0], one[1], one[2]), -1);
            }
            due("washer " + i, pool.washer(5000, 200, 100), i);
        }
        due("a fourth", pool.washer(1, 1, 0), -1);
        counts("three washers", pool, "5 2 2 2 1 0 0 3 0 0 0 0 0 ");

        doc.says("## Promise 38: dryers `boolean dryers(int n)`: DRYERS: true; false: not as told.");
        for (int i = 0; i < 3; i++) {
            pool.job(0, 200, 1440);
        }
        // each at 200 from a washer of its own, 20 times 5 to dry
        due("one", pool.night(1), 500);
        due("0", pool.dryers(0), false);
        due("4", pool.dryers(4), false);
        due("one still", pool.night(1), 500);
        due("3", pool.dryers(3), true);
        due("three", pool.night(1), 300);

        doc.says("## Promise 39: job `int job(int sort, int pieces, int due)`: A JOB: its number. NONE, doing"
            + " nothing: not as told, 7 are there.");
        int[][] badJobs = {{-1, 1, 0}, {2, 1, 0}, {0, 0, 0}, {0, 201, 0}, {0, 1, -1}, {0, 1, 1441}};
        for (int i = 3; i < 7; i++) {
            for (int[] one : badJobs) {
                due("job " + java.util.Arrays.toString(one), pool.job(one[0], one[1], one[2]), -1);
            }
            due("job " + i, pool.job(1, 1, 0), i);
        }
        due("an eighth", pool.job(1, 1, 0), -1);
        due("four pieces late", pool.night(0), 4);
        counts("seven jobs", pool, "5 2 2 2 1 0 0 3 7 0 0 0 0 ");

        doc.says("## Promise 40: clear `int clear()`: All JOBS are gone: how many they were.");
        due("seven", pool.clear(), 7);
        due("none", pool.clear(), 0);
        due("no job is there", pool.night(10), -1);
        due("job 0 again", pool.job(1, 1, 0), 0);
        due("one late", pool.night(0), 1);
        counts("clear", pool, "5 2 2 2 1 0 0 3 1 0 0 0 0 ");
    }

    private static void night() {
        doc.says("## Promise 41: night `int night(int what)`: The NIGHT: LATE (what 0), END (1; 0 without JOBS),"
            + " 10 + k the k-th JOB in ORDER, 20 + j the minute at which JOB j is dry. NONE: none such, no"
            + " WASHER.");
        LinenPool pool = pool();
        pool.job(0, 3, 10);
        for (int what : new int[] {0, 1, 10, 20}) {
            due("no washer: " + what, pool.night(what), -1);
        }
        pool.clear();
        pool.washer(1000, 30, 10);
        due("late without jobs", pool.night(0), 0);
        due("end without jobs", pool.night(1), 0);
        due("order without jobs", pool.night(10), -1);
        due("dry without jobs", pool.night(20), -1);
        pool.job(0, 3, 44);
        pool.job(1, 4, 38);
        // job 1 first: 38, then 10 and 30 more: 70 and 75, 3 late; job 0 first: 35, 78, 4 late
        due("late", pool.night(0), 3);
        due("end", pool.night(1), 75);
        due("first", pool.night(10), 1);
        due("second", pool.night(11), 0);
        due("job 0", pool.night(20), 75);
        due("job 1", pool.night(21), 38);
        for (int what : new int[] {Integer.MIN_VALUE, -1, 2, 9, 12, 19, 22, Integer.MAX_VALUE}) {
            due("none such: " + what, pool.night(what), -1);
        }
    }

    private static void round() {
        doc.says("## Promise 42: round `int round(int set, int minute, int what)`: A ROUND from a minute (0 to"
            + " 1,440): LATE (what 0), minutes till it's back (1), 10 + k the k-th HOUSE. NONE: not as told (bits"
            + " of HOUSES), none such.");
        LinenPool pool = pool();
        // house 0 is 7 from the works and 11 from house 1, which is 10 from them
        due("late", pool.round(3, 0, 0), 0);
        due("minutes", pool.round(3, 0, 1), 38);
        due("first", pool.round(3, 0, 10), 0);
        due("second", pool.round(3, 0, 11), 1);
        due("house 1 alone", pool.round(2, 0, 10), 1);
        due("both late", pool.round(3, 1440, 0), 2);
        int[][] bad = {{-1, 0, 0}, {4, 0, 0}, {Integer.MAX_VALUE, 0, 0}, {Integer.MIN_VALUE, 0, 0}, {3, -1, 0},
            {3, 1441, 0}, {3, 0, -1}, {3, 0, 2}, {3, 0, 9}, {3, 0, 12}, {2, 0, 11}, {0, 0, 10}};
        for (int[] one : bad) {
            due("round " + java.util.Arrays.toString(one), pool.round(one[0], one[1], one[2]), -1);
        }
    }

    private static void supplyAndBuy() {
        doc.says("## Promise 43: supply `boolean supply(int pieces, int coins, int keep, int back)`: Lots, coins,"
            + " KEEP, BACK: true; false: not as told.");
        LinenPool pool = pool();
        pool.want(0, 1, 5, 9);
        int[][] bad = {{0, 1, 1, 1}, {21, 1, 1, 1}, {1, -1, 1, 1}, {1, 1001, 1, 1}, {1, 1, -1, 1}, {1, 1, 101, 1},
            {1, 1, 1, 0}, {1, 1, 1, 11}};
        for (int[] one : bad) {
            due("supply " + java.util.Arrays.toString(one), pool.supply(one[0], one[1], one[2], one[3]), false);
        }
        due("a lot of 10 for 50, 2 left", pool.buy(1, 1, 0), 52);
        due("lots of 4 for 7", pool.supply(4, 7, 3, 1), true);
        due("two of them, none left", pool.buy(1, 1, 0), 14);

        doc.says("## Promise 44: buy `int buy(int sort, int d, int what)`: BUYING: coins (what 0), lots on the"
            + " k-th DAY (1 and k, k from 0 on). NONE: not as told, none such, it can't be.");
        pool.want(0, 1, 6, 10);
        // 9 out today, 9 back and 1 more wanted tomorrow: a lot, 3 of which are left
        due("coins", pool.buy(1, 2, 0), 14 + 7 + 3 * 3);
        due("lots today", pool.buy(1, 2, 1), 2);
        due("lots tomorrow", pool.buy(1, 2, 2), 1);
        due("lots on a third day", pool.buy(1, 2, 3), -1);
        due("what -1", pool.buy(1, 2, -1), -1);
        due("sort -1", pool.buy(-1, 1, 0), -1);
        due("sort 2", pool.buy(2, 1, 0), -1);
        due("0 days", pool.buy(1, 0, 0), -1);
        due("11 days", pool.buy(1, 11, 0), -1);
        due("10 days", pool.buy(1, 10, 11), -1);
        pool.supply(1, 7, 3, 1);
        due("5 and 1 aren't 9", pool.buy(1, 1, 0), -1);
        due("nor is a lot told", pool.buy(1, 1, 1), -1);
        due("no sheet came", pool.count(3), 2);
    }

    private static void told() {
        doc.says("## Promise 45: told `int told(int number, int what)`: Of a SHEET: 0 SORT, 1 LOT, 2 the DAY on"
            + " which it came, 3 MOVES ever; of a MOVE (what 10): its SHEET, 11 DAY, 12 PLACE, 13 the DAY on"
            + " which it was told, 14 that on which it was UNDONE (NONE). NONE: none such.");
        LinenPool pool = pool();
        pool.sheet(1, 3);
        pool.move(2, 5, 4);
        pool.day(6);
        pool.move(2, 5, 11);
        pool.day(8);
        pool.undo(2);
        int[] sheet = {1, 3, 5, 2, -1, -1, -1, -1, -1, -1};
        for (int what = 0; what < sheet.length; what++) {
            due("sheet 2: " + what, pool.told(2, what), sheet[what]);
        }
        int[] move = {2, 5, 11, 6, 8, -1};
        int[] other = {0, 2, 10, 5, -1, -1};
        for (int what = 0; what < move.length; what++) {
            due("move 2: " + (10 + what), pool.told(2, 10 + what), move[what]);
            due("move 0: " + (10 + what), pool.told(0, 10 + what), other[what]);
        }
        for (int what = 0; what < 16; what++) {
            due("number -1: " + what, pool.told(-1, what), -1);
            due("number 3: " + what, pool.told(3, what), -1);
        }
        due("what -1", pool.told(0, -1), -1);
    }

    private static void count() {
        doc.says("## Promise 46: count `int count(int what)`: 0 TODAY, 1 SORTS, 2 HOUSES, 3 SHEETS, 4 MOVES, 5"
            + " BAGS, 6 TERMS, 7 WASHERS, 8 JOBS, 9 bytes on the tape, 10 HEATS, 11 COUNTS, 12 MOVES UNDONE. NONE"
            + " for others.");
        LinenPool pool = pool();
        pool.sort(1, 1, 1, 1, 1);
        pool.house(0, 0, 0, 0);
        pool.house(0, 0, 0, 0);
        for (int i = 0; i < 4; i++) {
            pool.sheet(0, 0);
        }
        for (int i = 0; i < 6; i++) {
            pool.move(i, 5, 1);
        }
        for (int i = 0; i < 8; i++) {
            pool.bag(0, 5);
        }
        for (int i = 0; i < 2; i++) {
            Texts.take(pool, "");
            pool.washer(1, 1, 1);
        }
        pool.job(0, 1, 1);
        pool.feed(0, 0, 0, 0, 0);
        for (int i = 0; i < 9; i++) {
            pool.heat(5, 5, 5);
        }
        for (int i = 0; i < 10; i++) {
            pool.counted(0, 0, 0, 0);
        }
        for (int i = 0; i < 5; i++) {
            pool.undo(i);
        }
        int[] due = {5, 3, 4, 6, 7, 8, 2, 2, 1, 20, 9, 10, 5};
        for (int what = 0; what < due.length; what++) {
            due("count " + what, pool.count(what), due[what]);
        }
        for (int what : new int[] {Integer.MIN_VALUE, -1, 13, Integer.MAX_VALUE}) {
            due("count " + what, pool.count(what), -1);
        }
    }
}
