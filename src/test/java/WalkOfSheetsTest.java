import java.io.IOException;

/** The document up to "==== 2.": each sentence in its order, and calls that would tell if it were broken. */
public final class WalkOfSheetsTest {
    private static final Check CHECK = new Check();
    private static Document doc;

    public static void main(String[] args) throws IOException {
        doc = new Document(CHECK, "# LinenPool", "==== 2. BAGS");
        upTo512Calls();
        sorts();
        dryingAndLife();
        worth();
        houses();
        sheets();
        days();
        places();
        moves();
        history();
        whereAndSince();
        washes();
        nights();
        heats();
        proven();
        provenByTerms();
        unsafe();
        doc.end();
        CHECK.end();
    }

    private static void due(String call, long got, long want) {
        CHECK.due(call, got, want);
    }

    private static void due(String call, boolean got, boolean want) {
        CHECK.due(call, got, want);
    }

    /** SORTS 0 and 1, HOUSES 0 and 1, a SHEET of each SORT. */
    private static LinenPool pool() {
        LinenPool pool = new LinenPool();
        pool.sort(10, 0, 5, 20, 100);
        pool.sort(25, 1, 8, 10, 60);
        pool.house(1, 3, 4, 60);
        pool.house(2, 10, 0, 100);
        pool.sheet(0, 0);
        pool.sheet(1, 1);
        return pool;
    }

    private static void upTo512Calls() {
        doc.leavesOut("An object is used for");
        doc.says("An object is used for at most 512 calls after it has been made; what later calls answer is free.");
        LinenPool pool = pool();
        for (int call = 7; call <= 511; call++) {
            due("call " + call, pool.move(call % 2, 0, call % 5), call - 7);
        }
        due("call 512: where the last move of sheet 0, call 510, went", pool.where(0, 0, 0), 510 % 5);
        doc.leavesOut("## Terms");
        doc.says("## Terms");
    }

    private static void sorts() {
        doc.says("SORTS, up to 6:");
        LinenPool pool = new LinenPool();
        for (int i = 0; i < 6; i++) {
            due("sort " + i, pool.sort(1, 0, 1, 1, 1), i);
        }
        due("a seventh", pool.sort(1, 0, 1, 1, 1), -1);
        due("six are there", pool.count(1), 6);

        doc.says("GRAMS 1 to 60 (tens) a piece,");
        pool = new LinenPool();
        due("no grams", pool.sort(0, 0, 1, 1, 1), -1);
        due("61 grams", pool.sort(61, 0, 1, 1, 1), -1);
        due("1", pool.sort(1, 0, 1, 1, 1), 0);
        due("60", pool.sort(60, 0, 1, 1, 1), 1);
        pool.house(0, 0, 0, 0);
        pool.sheet(0, 0);
        pool.sheet(1, 0);
        pool.move(0, 0, 10);
        pool.move(1, 0, 10);
        due("61 is one of each", pool.load(0, 61, 0, 0, 0), 1);
        due("60 is none of the light", pool.load(0, 60, 0, 0, 1), 0);
        due("60 is one of the heavy", pool.load(0, 60, 0, 0, 2), 1);
        due("1 is one of the light", pool.load(0, 1, 0, 0, 0), 1);
        due("59 is none at all", pool.load(0, 59, 0, 0, 0), -1);

        doc.says("a CLASS 0 to 3,");
        pool = new LinenPool();
        due("class -1", pool.sort(1, -1, 1, 1, 1), -1);
        due("class 4", pool.sort(1, 4, 1, 1, 1), -1);
        due("class 0", pool.sort(1, 0, 1, 1, 1), 0);
        due("class 3", pool.sort(1, 3, 1, 1, 1), 1);
        pool.washer(1000, 10, 7);
        pool.job(0, 1, 1440);
        pool.job(1, 1, 1440);
        due("10, a change of 7, 10 and 1 to dry", pool.night(1), 28);
    }

    private static void dryingAndLife() {
        doc.says("DRY 1 to 90 minutes,");
        LinenPool pool = new LinenPool();
        due("dry 0", pool.sort(1, 0, 0, 1, 1), -1);
        due("dry 91", pool.sort(1, 0, 91, 1, 1), -1);
        due("dry 1", pool.sort(1, 0, 1, 1, 1), 0);
        due("dry 90", pool.sort(1, 0, 90, 1, 1), 1);
        pool.washer(1000, 10, 0);
        pool.job(0, 1, 1440);
        due("10 and 1", pool.night(20), 11);
        pool.clear();
        pool.job(1, 1, 1440);
        due("10 and 90", pool.night(20), 100);

        doc.says("LIFE 1 to 250 washes,");
        pool = new LinenPool();
        due("life 0", pool.sort(1, 0, 1, 0, 1), -1);
        due("life 251", pool.sort(1, 0, 1, 251, 1), -1);
        due("life 1", pool.sort(1, 0, 1, 1, 1), 0);
        due("life 250", pool.sort(1, 0, 1, 250, 1), 1);
        for (int sheet = 0; sheet < 2; sheet++) {
            pool.sheet(sheet, 0);
            pool.move(sheet, 0, 2);
            pool.move(sheet, 0, 0);
        }
        due("one wash is a life of 1", pool.due(0), 0);
        due("not one of 250", pool.due(1), -1);
        for (int wash = 2; wash <= 249; wash++) {
            pool.move(1, 0, 2);
            pool.move(1, 0, 0);
        }
        due("249 washes", pool.washes(1, 0, 0), 249);
        due("are not yet its life", pool.due(1), -1);
        pool.move(1, 0, 2);
        pool.move(1, 0, 0);
        due("250 are", pool.due(1), 1);
    }

    private static void worth() {
        doc.says("WORTH 1 to 1,000.");
        LinenPool pool = new LinenPool();
        due("worth 0", pool.sort(1, 0, 1, 1, 0), -1);
        due("worth 1,001", pool.sort(1, 0, 1, 1, 1001), -1);
        due("worth 1", pool.sort(1, 0, 1, 1, 1), 0);
        due("worth 1,000", pool.sort(1, 0, 1, 1, 1000), 1);
        pool.house(0, 0, 0, 0);
        pool.sheet(0, 0);
        pool.sheet(1, 0);
        due("1 by 20", pool.price(0, 0), 0);
        due("1,000 by 20", pool.price(1, 0), 50);
        due("only two sorts", pool.count(1), 2);
    }

    private static void houses() {
        doc.says("HOUSES, up to 8:");
        LinenPool pool = new LinenPool();
        for (int i = 0; i < 8; i++) {
            due("house " + i, pool.house(0, 0, 0, 0), i);
        }
        due("a ninth", pool.house(0, 0, 0, 0), -1);
        due("eight are there", pool.count(2), 8);

        doc.says("a KIND 0 to 3,");
        pool = new LinenPool();
        pool.sort(10, 0, 5, 20, 100);
        pool.sheet(0, 0);
        due("kind -1", pool.house(-1, 0, 0, 0), -1);
        due("kind 4", pool.house(4, 0, 0, 0), -1);
        due("kind 0", pool.house(0, 0, 0, 0), 0);
        due("kind 3", pool.house(3, 0, 0, 0), 1);
        Texts.take(pool, "price=kind;");
        due("price by kind 0", pool.price(0, 0), 0);
        due("price by kind 3", pool.price(0, 1), 3);

        doc.says("at x, y (0 to 99 each; the works are at 0, 0),");
        pool = new LinenPool();
        due("x -1", pool.house(0, -1, 0, 0), -1);
        due("x 100", pool.house(0, 100, 0, 0), -1);
        due("y -1", pool.house(0, 0, -1, 0), -1);
        due("y 100", pool.house(0, 0, 100, 0), -1);
        due("both 99", pool.house(0, 99, 99, 1440), 0);
        due("both 0", pool.house(0, 0, 0, 1440), 1);
        due("198 there, 5, 198 back", pool.round(1, 0, 1), 401);
        due("at the works' own place", pool.round(2, 0, 1), 5);

        doc.says("a NOON 0 to 1,440 (minutes).");
        pool = new LinenPool();
        due("noon -1", pool.house(0, 0, 0, -1), -1);
        due("noon 1,441", pool.house(0, 0, 0, 1441), -1);
        due("noon 0", pool.house(0, 0, 0, 0), 0);
        due("noon 1,440", pool.house(0, 1, 0, 1440), 1);
        due("it comes at 0", pool.round(1, 0, 0), 0);
        due("it comes at 1", pool.round(1, 1, 0), 1);
        due("it comes at 1,440", pool.round(2, 1439, 0), 0);
        due("it comes at 1,441", pool.round(2, 1440, 0), 1);
    }

    private static void sheets() {
        doc.says("SHEETS, up to 150:");
        LinenPool pool = pool();
        for (int i = 2; i < 150; i++) {
            due("sheet " + i, pool.sheet(0, 0), i);
        }
        due("a 151st", pool.sheet(0, 0), -1);
        due("150 are there", pool.count(3), 150);

        doc.says("a SORT,");
        pool = pool();
        due("sort -1", pool.sheet(-1, 0), -1);
        due("sort 2 isn't there", pool.sheet(2, 0), -1);
        due("of sort 0", pool.told(0, 0), 0);
        due("of sort 1", pool.told(1, 0), 1);

        doc.says("a LOT of tags 0 to 3;");
        due("lot -1", pool.sheet(0, -1), -1);
        due("lot 4", pool.sheet(0, 4), -1);
        due("lot 3", pool.sheet(0, 3), 2);
        due("its lot", pool.told(2, 1), 3);
        due("lot 0", pool.told(0, 1), 0);

        doc.says("they come into STOCK.");
        due("it's in stock", pool.where(2, 0, 0), 0);
        due("two of sort 0 are", pool.many(0, 0, 0, 0), 2);
        due("without a move", pool.told(2, 3), 0);
        due("none are there", pool.count(4), 0);
    }

    private static void days() {
        doc.says("DAYS 0 to 1,000,");
        LinenPool pool = pool();
        due("where on day -1", pool.where(0, -1, 0), -1);
        due("where on day 1,000", pool.where(0, 1000, 1000), 0);
        due("where on day 1,001", pool.where(0, 1001, 0), -1);
        due("as known on day 1,001", pool.where(0, 0, 1001), -1);

        doc.says("TODAY is 0 at first.");
        due("today", pool.count(0), 0);
        due("a sheet came on it", pool.told(0, 2), 0);
        due("1,001 can't be today", pool.day(1001), false);
        due("1,000 can", pool.day(1000), true);
        due("today then", pool.count(0), 1000);
    }

    private static void places() {
        doc.says("```text A PLACE is a number: 0 STOCK, 1 SOILED, 2 WASH, 3 RETIRED, 4 GONE, 10 and h HOUSE h.");
        LinenPool pool = pool();
        int[] places = {0, 1, 2, 3, 4, 10, 11};
        for (int i = 0; i < places.length; i++) {
            due("move to " + places[i], pool.move(0, 0, places[i]), i);
            due("it's there", pool.where(0, 0, 0), places[i]);
            due("one is there", pool.many(places[i], 0, 0, 0), 1);
        }
        for (int none : new int[] {-1, 5, 6, 7, 8, 9, 12, 13, 17, 18}) {
            due("move to " + none, pool.move(0, 0, none), -1);
            due("many at " + none, pool.many(none, 0, 0, 0), -1);
        }
        due("it's at house 1 still", pool.where(0, 0, 0), 11);
        pool.bag(1, 0);
        due("read in a bag", pool.read(0, 0), 7);
        due("it's soiled", pool.where(0, 0, 0), 1);
        pool.move(0, 0, 2);
        pool.move(0, 0, 0);
        due("from the wash into stock", pool.washes(0, 0, 0), 1);
        Texts.take(pool, "retire=1;");
        due("what is in stock is due", pool.due(0), 0);
        pool.move(0, 0, 3);
        due("what is retired isn't", pool.due(0), 1);
        pool.move(0, 0, 4);
        due("what is gone isn't", pool.due(0), 1);
    }

    private static void moves() {
        doc.says("A MOVE of a SHEET on a DAY (from that on which it came to TODAY) to a PLACE;");
        LinenPool pool = pool();
        pool.day(3);
        pool.sheet(0, 0);
        pool.day(7);
        due("ahead of its coming", pool.move(2, 2, 1), -1);
        due("on the day on which it came", pool.move(2, 3, 1), 0);
        due("today", pool.move(2, 7, 1), 1);
        due("tomorrow", pool.move(2, 8, 1), -1);
        due("of none", pool.move(3, 7, 1), -1);
        due("the move's sheet", pool.told(1, 10), 2);
        due("its day", pool.told(1, 11), 7);
        due("its place", pool.told(1, 12), 1);

        doc.says("told TODAY it's KNOWN from TODAY on, till it's UNDONE (from that DAY on it isn't).");
        pool = pool();
        pool.day(4);
        pool.move(0, 2, 10);
        pool.day(6);
        pool.undo(0);
        pool.day(9);
        for (int known = 0; known <= 10; known++) {
            due("up to 5 as known by " + known, pool.where(0, 5, known), known == 4 || known == 5 ? 10 : 0);
            due("up to 1 as known by " + known, pool.where(0, 1, known), 0);
        }
        due("told on", pool.told(0, 13), 4);
        due("undone on", pool.told(0, 14), 6);
        pool.move(0, 9, 1);
        pool.undo(1);
        due("told and undone today it's never known", pool.where(0, 9, 9), 0);

        doc.says("Up to 600 MOVES.");
        pool = pool();
        for (int i = 0; i < 600; i++) {
            due("move " + i, pool.move(0, 0, 1), i);
        }
        due("a 601st", pool.move(0, 0, 1), -1);
        due("undone", pool.undo(599), true);
        due("but told", pool.move(0, 0, 1), -1);
        due("600 are there", pool.count(4), 600);
    }

    private static void history() {
        doc.says("HISTORY of a SHEET as KNOWN by k, up to d: its MOVES KNOWN by k (told on k or ahead, not UNDONE"
            + " on k or ahead)");
        LinenPool pool = pool();
        pool.day(5);
        pool.move(0, 1, 10);
        pool.move(1, 1, 11);
        pool.day(8);
        due("told ahead", pool.where(0, 8, 7), 10);
        due("told on that day", pool.where(0, 8, 5), 10);
        due("told behind it", pool.where(0, 8, 4), 0);
        due("its own moves alone", pool.where(1, 8, 8), 11);
        pool.undo(0);
        due("undone behind", pool.where(0, 8, 7), 10);
        due("undone on that day", pool.where(0, 8, 8), 0);
        due("undone ahead", pool.where(0, 8, 9), 0);

        doc.says("of DAYS up to d, by DAYS,");
        pool = pool();
        pool.day(9);
        pool.move(0, 5, 10);
        pool.move(0, 3, 1);
        due("the later day is the last, though told first", pool.where(0, 9, 9), 10);
        due("up to 5", pool.where(0, 5, 9), 10);
        due("up to 4", pool.where(0, 4, 9), 1);
        due("up to 3", pool.where(0, 3, 9), 1);
        due("up to 2", pool.where(0, 2, 9), 0);

        doc.says("of one DAY as they were told.");
        pool.move(0, 5, 2);
        due("the later told", pool.where(0, 9, 9), 2);
        pool.move(0, 3, 4);
        due("a later told one of an earlier day", pool.where(0, 9, 9), 2);
        due("of that day", pool.where(0, 4, 9), 4);
        pool.undo(2);
        due("the first told again", pool.where(0, 9, 9), 10);
    }

    private static void whereAndSince() {
        doc.says("WHERE it is: to where the last of these goes;");
        LinenPool pool = pool();
        pool.day(9);
        pool.move(0, 2, 10);
        pool.move(0, 6, 1);
        pool.move(0, 6, 11);
        due("the last", pool.where(0, 9, 9), 11);
        due("the last up to 5", pool.where(0, 5, 9), 10);

        doc.says("STOCK without one;");
        due("up to 1", pool.where(0, 1, 9), 0);
        due("as known by 8", pool.where(0, 9, 8), 0);
        due("none at all", pool.where(1, 9, 9), 0);

        doc.says("SINCE: the DAY of that MOVE, else that on which it came.");
        pool.sheet(0, 0);
        pool.move(2, 9, 1);
        due("since the last move", pool.since(0, 9, 9), 6);
        due("since that up to 5", pool.since(0, 5, 9), 2);
        due("since it came", pool.since(0, 1, 9), 0);
        due("since it came, as known", pool.since(0, 9, 8), 0);
        pool.day(12);
        pool.undo(3);
        due("it came on 9", pool.since(2, 12, 12), 9);
        pool.move(0, 8, 11);
        due("to where it is already", pool.since(0, 12, 12), 8);

        doc.says("(It must have come by both, d and k.)");
        due("by day 8", pool.where(2, 8, 12), -1);
        due("by known 8", pool.where(2, 12, 8), -1);
        due("by both", pool.where(2, 9, 9), 1);
        due("since by day 8", pool.since(2, 8, 12), -1);
        due("washes by known 8", pool.washes(2, 12, 8), -1);
        due("nights by day 8", pool.nights(2, 0, 8, 12), -1);
        due("misses by known 8", pool.misses(2, 12, 8), -1);
        due("doubt by day 8", pool.doubt(2, 8, 12), -1);
        due("not counted by day 8", pool.many(0, 0, 8, 8), 1);
        due("counted by 12, where it's in stock", pool.many(0, 0, 12, 12), 1);
        due("soiled as known by 9", pool.many(1, 0, 9, 9), 1);
    }

    private static void washes() {
        doc.says("WASHES: how many MOVES of HISTORY go into STOCK and come right behind one into WASH.");
        LinenPool pool = pool();
        pool.day(9);
        int[] places = {0, 2, 0, 0, 2, 1, 0, 2, 2, 0, 1, 2, 10, 0};
        int[] washes = {0, 0, 1, 1, 1, 1, 1, 1, 1, 2, 2, 2, 2, 2};
        for (int i = 0; i < places.length; i++) {
            pool.move(0, 1, places[i]);
            due("washes behind move " + i, pool.washes(0, 9, 9), washes[i]);
        }
        pool.move(1, 6, 0);
        due("into stock alone", pool.washes(1, 9, 9), 0);
        pool.move(1, 5, 2);
        due("a wash told later, of a day ahead", pool.washes(1, 9, 9), 1);
        due("not yet by day 5", pool.washes(1, 5, 9), 0);
        int between = pool.move(1, 5, 1);
        due("soiled between", pool.washes(1, 9, 9), 0);
        pool.day(10);
        pool.undo(between);
        due("that undone", pool.washes(1, 10, 10), 1);
        due("not as known by 9", pool.washes(1, 10, 9), 0);
        due("nor by 8", pool.washes(1, 10, 8), 0);
    }

    private static void nights() {
        doc.says("NIGHTS at a HOUSE: as how many DAYS up to d ended it was there.");
        LinenPool pool = pool();
        pool.day(10);
        pool.move(0, 2, 10);
        pool.move(0, 4, 1);
        pool.move(0, 4, 10);
        pool.move(0, 7, 11);
        pool.move(0, 9, 0);
        due("2, 3, 4, 5, 6", pool.nights(0, 0, 10, 10), 5);
        due("7, 8", pool.nights(0, 1, 10, 10), 2);
        due("up to 3", pool.nights(0, 0, 3, 10), 2);
        due("up to 2", pool.nights(0, 0, 2, 10), 1);
        due("up to 1", pool.nights(0, 0, 1, 10), 0);
        due("up to 7", pool.nights(0, 1, 7, 10), 1);
        due("as known by 9", pool.nights(0, 0, 10, 9), 0);
        due("no house 2", pool.nights(0, 2, 10, 10), -1);
        pool.move(1, 2, 10);
        pool.move(1, 2, 0);
        pool.move(1, 3, 10);
        due("in and out on one day is no night", pool.nights(1, 0, 2, 10), 0);
        due("3 to 1,000", pool.nights(1, 0, 1000, 10), 998);
    }

    private static void heats() {
        doc.says("A HEAT of a DAY (up to TODAY):");
        LinenPool pool = pool();
        pool.day(4);
        due("day -1", pool.heat(-1, 50, 50), -1);
        due("tomorrow", pool.heat(5, 50, 50), -1);
        due("today", pool.heat(4, 50, 50), 1);
        due("day 0", pool.heat(0, 50, 50), 2);
        due("proven, it's of today", pool.proven(4, 4), 1);
        due("not of yesterday", pool.proven(3, 4), 0);

        doc.says("degrees 0 to 120 for minutes 0 to 200,");
        due("-1 degrees", pool.heat(1, -1, 50), -1);
        due("121", pool.heat(1, 121, 50), -1);
        due("-1 minutes", pool.heat(1, 50, -1), -1);
        due("201", pool.heat(1, 50, 201), -1);
        due("none told", pool.proven(1, 4), 0);
        due("0 for 0", pool.heat(1, 0, 0), 3);
        due("is one", pool.proven(1, 4), 1);
        due("120 for 200", pool.heat(2, 120, 200), 4);

        doc.says("up to 60,");
        for (int i = 5; i <= 60; i++) {
            due("heat " + i, pool.heat(0, 50, 50), i);
        }
        due("a 61st", pool.heat(3, 50, 50), -1);
        due("wasn't told", pool.proven(3, 4), 0);
        due("60 are there", pool.count(10), 60);

        doc.says("KNOWN as told.");
        pool = pool();
        pool.day(4);
        pool.heat(2, 50, 50);
        due("as known by 3", pool.proven(2, 3), 0);
        due("by 4", pool.proven(2, 4), 1);
        due("by 1,000", pool.proven(2, 1000), 1);
    }

    private static void proven() {
        doc.says("A DAY is PROVEN, if one HEAT of it has at least the degrees and the minutes");
        LinenPool pool = pool();
        Texts.take(pool, "heat 60 for 10;");
        pool.day(9);
        int[][] heats = {{60, 10, 1}, {59, 10, 0}, {60, 9, 0}, {61, 11, 1}, {120, 9, 0}, {59, 200, 0}, {120, 200, 1}};
        for (int i = 0; i < heats.length; i++) {
            pool.heat(i, heats[i][0], heats[i][1]);
            due("proven by " + heats[i][0] + " for " + heats[i][1], pool.proven(i, 9), heats[i][2]);
        }
        pool.heat(8, 120, 9);
        pool.heat(8, 59, 200);
        due("two that are short of one each", pool.proven(8, 9), 0);
        pool.heat(8, 60, 10);
        due("one of three", pool.proven(8, 9), 1);
    }

    private static void provenByTerms() {
        doc.says("that the last \"heat\" of TERMS in force on it tells");
        LinenPool pool = pool();
        pool.heat(0, 50, 50);
        pool.day(3);
        Texts.take(pool, "heat 10 for 10;heat 60 for 10;");
        pool.heat(2, 50, 50);
        pool.heat(3, 50, 50);
        due("no terms in force on 0", pool.proven(0, 3), 1);
        due("nor on 2, however late it's told", pool.proven(2, 3), 1);
        due("the last heat from 3 on", pool.proven(3, 3), 0);
        pool.heat(3, 60, 10);
        due("60 for 10 will do", pool.proven(3, 3), 1);
        pool.day(5);
        Texts.take(pool, "heat 50 for 50;");
        pool.heat(4, 50, 50);
        pool.heat(5, 50, 50);
        due("the first terms on 4", pool.proven(4, 5), 0);
        due("the second on 5", pool.proven(5, 5), 1);
        due("which are in force, known or not", pool.proven(5, 4), 0);

        doc.says("(0 and 0 without).");
        pool = pool();
        pool.heat(0, 0, 0);
        due("without terms", pool.proven(0, 0), 1);
        due("without a heat", pool.proven(1, 0), 0);
        Texts.take(pool, "price=1;");
        due("terms without one", pool.proven(0, 0), 1);
        Texts.take(pool, "heat 0 for 1;");
        due("terms with one", pool.proven(0, 0), 0);
    }

    private static void unsafe() {
        doc.says("UNSAFE: a SHEET in STOCK or at a HOUSE");
        LinenPool pool = pool();
        int[] places = {0, 1, 2, 3, 4, 10, 11};
        boolean[] unsafe = {true, false, false, false, false, true, true};
        pool.move(0, 0, 2);
        for (int i = 0; i < places.length; i++) {
            pool.move(0, 0, places[i]);
            due("unsafe at " + places[i], pool.unsafe(0, 0), unsafe[i] ? 0 : -1);
        }

        doc.says("whose HISTORY has a MOVE into WASH,");
        pool = pool();
        pool.day(3);
        pool.move(0, 1, 10);
        due("none into the wash", pool.unsafe(0, 3), -1);
        pool.move(1, 1, 2);
        pool.move(1, 2, 0);
        due("the second alone", pool.unsafe(0, 3), 1);
        due("none beside", pool.unsafe(1, 3), -1);
        due("not as known by 2", pool.unsafe(0, 2), -1);
        pool.day(4);
        pool.undo(1);
        due("the wash undone", pool.unsafe(0, 4), -1);
        due("as known by 3", pool.unsafe(0, 3), 1);

        doc.says("the last of a DAY that isn't PROVEN. ```");
        pool = pool();
        pool.day(8);
        pool.heat(5, 1, 1);
        pool.move(0, 3, 2);
        pool.move(0, 4, 0);
        due("of 3", pool.unsafe(0, 8), 0);
        pool.move(0, 5, 2);
        pool.move(0, 6, 10);
        due("of 5, which is proven", pool.unsafe(0, 8), -1);
        pool.move(0, 7, 2);
        pool.move(0, 7, 0);
        due("of 7", pool.unsafe(0, 8), 0);
        pool.day(9);
        pool.heat(7, 0, 0);
        due("proven now", pool.unsafe(0, 9), -1);
        due("not as known by 8", pool.unsafe(0, 8), 0);
    }
}
