import java.util.Arrays;

/** A pool of linen: sheets, houses, washing, prices and terms. The promises stand in DOC.md. */
public final class LinenPool {
    public static final int NONE = -1;

    private static final int LAST_DAY = 1000;
    private static final int LAST_MINUTE = 1440;
    private static final int STOCK = 0;
    private static final int SOILED = 1;
    private static final int WASH = 2;
    private static final int GONE = 4;
    private static final int FIRST_HOUSE = 10;
    private static final int MOST_SORTS = 6;
    private static final int MOST_HOUSES = 8;
    private static final int LOTS = 4;
    private static final int CLASSES = 4;
    private static final int WEEK = 7;
    private static final int LAST_WANTED_DAY = 1010;
    private static final int MOST_BYTES = 400;
    private static final long NO_VALUE = -2_000_000_000_000L;
    /** More than any minutes, coins or PIECES together: what stands where there is nothing to beat yet. */
    private static final int BEYOND_ALL = 1_000_000_000;
    private static final Kind[] KINDS = Kind.values();

    private final Sorts sorts = new Sorts();
    private final Houses houses = new Houses();
    private final Book book = new Book();
    private final Evidence evidence = new Evidence(book);
    private final Ledger ledger = new Ledger(sorts, houses, book, evidence);
    private final Night night = new Night(sorts);
    private final Supply supply = new Supply();
    private final Reader reader = new Reader();
    private final char[] tape = new char[MOST_BYTES];
    private int tapeSize;
    private int lastFault = NONE;

    public LinenPool() {
    }

    // ---- sorts, houses, sheets, days ----

    public int sort(int grams, int kind, int dry, int life, int worth) {
        boolean told = within(grams, 1, 60) && within(kind, 0, CLASSES - 1) && within(dry, 1, 90)
            && within(life, 1, 250) && within(worth, 1, 1000);
        return told && sorts.size < MOST_SORTS ? sorts.add(grams, kind, dry, life, worth) : NONE;
    }

    public int house(int kind, int x, int y, int noon) {
        boolean told = within(kind, 0, 3) && within(x, 0, 99) && within(y, 0, 99) && within(noon, 0, LAST_MINUTE);
        return told && houses.size < MOST_HOUSES ? houses.add(kind, x, y, noon) : NONE;
    }

    public int sheet(int sort, int lot) {
        boolean told = sorts.has(sort) && within(lot, 0, LOTS - 1);
        return told && book.sheets < Book.MOST_SHEETS ? book.addSheet(sort, lot) : NONE;
    }

    public boolean day(int d) {
        if (d <= book.today || d > LAST_DAY) {
            return false;
        }
        book.today = d;
        return true;
    }

    // ---- moves ----

    public int move(int sheet, int day, int place) {
        boolean told = book.has(sheet) && isPlace(place) && within(day, book.came[sheet], book.today);
        return told && !book.isFull() ? book.addMove(sheet, day, place, NONE) : NONE;
    }

    public boolean undo(int move) {
        return book.takeBack(move);
    }

    public int where(int sheet, int day, int known) {
        return isAsked(sheet, day, known) ? book.placeAt(sheet, day, known) : NONE;
    }

    public int since(int sheet, int day, int known) {
        return isAsked(sheet, day, known) ? book.sinceAt(sheet, day, known) : NONE;
    }

    public int washes(int sheet, int day, int known) {
        return isAsked(sheet, day, known) ? book.washesAt(sheet, day, known) : NONE;
    }

    public int nights(int sheet, int house, int day, int known) {
        boolean told = isAsked(sheet, day, known) && houses.has(house);
        return told ? book.nightsAt(sheet, FIRST_HOUSE + house, day, known) : NONE;
    }

    public int many(int place, int sort, int day, int known) {
        boolean told = isPlace(place) && sorts.has(sort) && areDays(day, known);
        return told ? book.manyAt(place, sort, day, known) : NONE;
    }

    // ---- heats ----

    public int heat(int day, int degrees, int minutes) {
        boolean told = within(day, 0, book.today) && within(degrees, 0, 120) && within(minutes, 0, 200);
        return told && evidence.heats < Evidence.MOST ? evidence.addHeat(day, degrees, minutes) : NONE;
    }

    public int proven(int day, int known) {
        return areDays(day, known) ? asNumber(ledger.isProven(day, known)) : NONE;
    }

    public int unsafe(int k, int known) {
        return k >= 0 && isDay(known) ? ledger.unsafeSheet(k, known) : NONE;
    }

    // ---- bags, misses, counts ----

    public boolean lot(int lot, int missed) {
        if (!within(lot, 0, LOTS - 1) || !within(missed, 0, 15)) {
            return false;
        }
        evidence.missed[lot] = missed;
        return true;
    }

    public boolean beyond(int n) {
        if (!within(n, 2, 10_000)) {
            return false;
        }
        evidence.beyond = n;
        return true;
    }

    public int bag(int house, int day) {
        boolean told = houses.has(house) && within(day, 0, book.today);
        return told && evidence.bags < Evidence.MOST ? evidence.addBag(house, day) : NONE;
    }

    public int read(int bag, int sheet) {
        if (!within(bag, 0, evidence.bags - 1) || !book.has(sheet)) {
            return NONE;
        }
        if (book.isRead(sheet, bag)) {
            return -2;
        }
        int day = evidence.bagDay[bag];
        if (book.came[sheet] > day) {
            return -3;
        }
        return book.isFull() ? -4 : book.addMove(sheet, day, SOILED, bag);
    }

    public int misses(int sheet, int day, int known) {
        return isAsked(sheet, day, known) ? evidence.missesOf(sheet, day, known) : NONE;
    }

    public int doubt(int sheet, int day, int known) {
        return isAsked(sheet, day, known) ? asNumber(evidence.isDoubted(sheet, day, known)) : NONE;
    }

    public int lost(int house, int sort, int day, int known) {
        boolean told = houses.has(house) && sorts.has(sort) && areDays(day, known);
        return told ? evidence.lostAt(house, sort, day, known) : NONE;
    }

    public int counted(int house, int sort, int day, int n) {
        boolean told = houses.has(house) && sorts.has(sort) && within(day, 0, book.today) && within(n, 0, 1000);
        return told && evidence.counts < Evidence.MOST ? evidence.addCount(house, sort, day, n) : NONE;
    }

    public int shortOf(int house, int sort, int day, int known) {
        boolean told = houses.has(house) && sorts.has(sort) && areDays(day, known);
        return told ? evidence.shortAt(house, sort, day, known) : NONE;
    }

    public int load(int house, int weight, int p, int q, int what) {
        boolean told = houses.has(house) && within(weight, 0, Sorts.MOST_WEIGHT) && 0 <= p && p <= q && q <= 200
            && within(what, NONE, 2 * sorts.size - 1);
        if (!told) {
            return -2;
        }
        for (int sort = 0; sort < sorts.size; sort++) {
            sorts.pieces[sort] = book.manyAt(FIRST_HOUSE + house, sort, book.today, book.today);
        }
        int least = (weight * 100 + 99 + q) / (100 + q);
        int most = weight * 100 / (100 + p);
        return sorts.waysOrPieces(least, most, what);
    }

    // ---- terms ----

    public int feed(int a, int b, int c, int d, int e) {
        if (tapeSize + 20 > MOST_BYTES) {
            return NONE;
        }
        feedNumber(a);
        feedNumber(b);
        feedNumber(c);
        feedNumber(d);
        feedNumber(e);
        return tapeSize;
    }

    public int terms(int n) {
        if (n < 0 || n > tapeSize) {
            return -2;
        }
        if (ledger.isFull()) {
            return -3;
        }
        tapeSize = 0;
        Node statements = reader.readAll(tape, n);
        lastFault = reader.fault;
        return lastFault == NONE ? ledger.take(statements, reader.names, Node.textOf(statements)) : NONE;
    }

    public int fault() {
        return lastFault;
    }

    public int written(int terms, int i) {
        if (!within(terms, 0, ledger.size - 1)) {
            return NONE;
        }
        String text = ledger.taken[terms].text;
        if (i == NONE) {
            return text.length();
        }
        return within(i, 0, text.length() - 1) ? text.charAt(i) : NONE;
    }

    public long value(int sheet, int k) {
        return book.has(sheet) && k >= 0 ? ledger.valueNow(sheet, k) : NO_VALUE;
    }

    public long price(int sheet, int house) {
        boolean told = book.has(sheet) && houses.has(house);
        return told ? ledger.priceOn(sheet, house, book.today, book.today) : NONE;
    }

    public long bill(int house, int from, int to, int known) {
        boolean told = houses.has(house) && areDays(from, to) && isDay(known);
        return told ? ledger.billOf(house, from, to, known) : NONE;
    }

    public long part(int house, int who, int day, int known) {
        boolean told = houses.has(house) && within(who, Ledger.THE_HOUSE, Ledger.THE_POOL) && areDays(day, known);
        return told ? ledger.partOf(house, who, day, known) : NONE;
    }

    public int due(int k) {
        return k >= 0 ? ledger.dueSheet(k) : NONE;
    }

    public boolean want(int house, int sort, int weekday, int pieces) {
        if (!houses.has(house) || !sorts.has(sort) || !within(weekday, 0, WEEK - 1) || !within(pieces, 0, 50)) {
            return false;
        }
        ledger.wants[house][sort * WEEK + weekday] = pieces;
        return true;
    }

    public int wanted(int sort, int day) {
        return sorts.has(sort) && within(day, 0, LAST_WANTED_DAY) ? ledger.wantedOn(sort, day) : NONE;
    }

    // ---- the night ----

    public int washer(int load, int minutes, int change) {
        boolean told = within(load, 1, 5000) && within(minutes, 1, 200) && within(change, 0, 100);
        return told && night.washers < Night.MOST_WASHERS ? night.addWasher(load, minutes, change) : NONE;
    }

    public boolean dryers(int n) {
        if (!within(n, 1, Night.MOST_DRYERS)) {
            return false;
        }
        night.dryers = n;
        return true;
    }

    public int job(int sort, int pieces, int due) {
        boolean told = sorts.has(sort) && within(pieces, 1, 200) && within(due, 0, LAST_MINUTE);
        return told && night.jobs < Night.MOST_JOBS ? night.addJob(sort, pieces, due) : NONE;
    }

    public int clear() {
        int gone = night.jobs;
        night.jobs = 0;
        return gone;
    }

    public int night(int what) {
        boolean order = within(what, 10, 9 + night.jobs);
        boolean minute = within(what, 20, 19 + night.jobs);
        if (night.washers == 0 || !(within(what, 0, 1) || order || minute)) {
            return NONE;
        }
        night.plan(ledger.mixes());
        if (order) {
            return night.bestOrder[what - 10];
        }
        if (minute) {
            return night.bestDryAt[what - 20];
        }
        return what == 0 ? night.bestLate : night.bestEnd;
    }

    // ---- the lorry's round, buying ----

    public int round(int set, int minute, int what) {
        if (set < 0 || set >= 1 << houses.size || !within(minute, 0, LAST_MINUTE)) {
            return NONE;
        }
        boolean order = within(what, 10, 9 + Integer.bitCount(set));
        if (!within(what, 0, 1) && !order) {
            return NONE;
        }
        houses.planRound(set, minute);
        if (order) {
            return houses.bestOrder[what - 10];
        }
        return what == 0 ? houses.bestLate : houses.bestMinutes;
    }

    public boolean supply(int pieces, int coins, int keep, int back) {
        if (!within(pieces, 1, 20) || !within(coins, 0, 1000) || !within(keep, 0, 100) || !within(back, 1, 10)) {
            return false;
        }
        supply.pieces = pieces;
        supply.coins = coins;
        supply.keep = keep;
        supply.back = back;
        return true;
    }

    public int buy(int sort, int d, int what) {
        if (!sorts.has(sort) || !within(d, 1, Supply.MOST_DAYS) || !within(what, 0, d)) {
            return NONE;
        }
        for (int i = 0; i < d; i++) {
            supply.wants[i] = ledger.wantedOn(sort, book.today + i);
        }
        supply.plan(d, book.manyAt(STOCK, sort, book.today, book.today));
        if (!supply.canBe()) {
            return NONE;
        }
        return what == 0 ? supply.fewestCoins() : supply.lotsOn(what - 1);
    }

    // ---- what was told ----

    public int told(int number, int what) {
        if (what < 10) {
            return book.has(number) ? book.toldOfSheet(number, what) : NONE;
        }
        return within(number, 0, book.moves - 1) ? book.toldOfMove(number, what) : NONE;
    }

    public int count(int what) {
        switch (what) {
            case 0: return book.today;
            case 1: return sorts.size;
            case 2: return houses.size;
            case 3: return book.sheets;
            case 4: return book.moves;
            case 5: return evidence.bags;
            case 6: return ledger.size;
            case 7: return night.washers;
            case 8: return night.jobs;
            case 9: return tapeSize;
            case 10: return evidence.heats;
            case 11: return evidence.counts;
            case 12: return book.takenBack;
            default: return NONE;
        }
    }

    // ---- helpers ----

    private static boolean within(int n, int least, int most) {
        return least <= n && n <= most;
    }

    private static int asNumber(boolean holds) {
        return holds ? 1 : 0;
    }

    private static boolean isDay(int day) {
        return within(day, 0, LAST_DAY);
    }

    private static boolean areDays(int day, int known) {
        return isDay(day) && isDay(known);
    }

    private boolean isPlace(int place) {
        return within(place, STOCK, GONE) || place >= FIRST_HOUSE && houses.has(place - FIRST_HOUSE);
    }

    private boolean isAsked(int sheet, int day, int known) {
        return book.has(sheet) && areDays(day, known) && book.hasCome(sheet, day, known);
    }

    private void feedNumber(int number) {
        for (int shift = 24; shift >= 0; shift -= 8) {
            tape[tapeSize] = (char) (number >> shift & 255);
            tapeSize++;
        }
    }

    /** The SORTS, and the LOADS of a scale turned to pieces of them. */
    private static final class Sorts {
        static final int MOST_WEIGHT = 9000;
        private static final int MOST_WAYS = 1_000_000;

        final int[] grams = new int[MOST_SORTS];
        final int[] kind = new int[MOST_SORTS];
        final int[] dry = new int[MOST_SORTS];
        final int[] life = new int[MOST_SORTS];
        final int[] worth = new int[MOST_SORTS];
        int size;
        /** How many pieces of each SORT a LOAD may have at most. */
        final int[] pieces = new int[MOST_SORTS];
        /** In how many ways each weight up to the heaviest comes about. */
        private final int[] ways = new int[MOST_WEIGHT + 1];
        private int heaviest;

        boolean has(int sort) {
            return within(sort, 0, size - 1);
        }

        int add(int gramsEach, int kindOf, int dryMinutes, int washesOfLife, int worthEach) {
            grams[size] = gramsEach;
            kind[size] = kindOf;
            dry[size] = dryMinutes;
            life[size] = washesOfLife;
            worth[size] = worthEach;
            size++;
            return size - 1;
        }

        int waysOrPieces(int least, int most, int what) {
            if (what == NONE) {
                spread(most, NONE);
                int all = waysWithin(least, most);
                return all == 0 ? NONE : Math.min(all, MOST_WAYS);
            }
            int sort = what / 2;
            spread(most, sort);
            return what % 2 == 0 ? fewest(sort, least, most) : greatest(sort, least, most);
        }

        private int fewest(int sort, int least, int most) {
            for (int n = 0; n <= pieces[sort]; n++) {
                if (waysWithin(least - n * grams[sort], most - n * grams[sort]) > 0) {
                    return n;
                }
            }
            return NONE;
        }

        private int greatest(int sort, int least, int most) {
            for (int n = pieces[sort]; n >= 0; n--) {
                if (waysWithin(least - n * grams[sort], most - n * grams[sort]) > 0) {
                    return n;
                }
            }
            return NONE;
        }

        private int waysWithin(int least, int most) {
            int all = 0;
            for (int weight = Math.max(least, 0); weight <= Math.min(most, heaviest); weight++) {
                all += ways[weight];
            }
            return all;
        }

        /** Counts the ways to every weight up to most, without pieces of the SORT that is left out. */
        private void spread(int most, int leftOut) {
            heaviest = 0;
            ways[0] = 1;
            for (int sort = 0; sort < size; sort++) {
                if (sort != leftOut) {
                    int before = heaviest;
                    heaviest = Math.min(most, before + pieces[sort] * grams[sort]);
                    for (int weight = before + 1; weight <= heaviest; weight++) {
                        ways[weight] = 0;
                    }
                    addPieces(sort);
                }
            }
        }

        /** From the top down, so that what lies below still tells the ways without this SORT. */
        private void addPieces(int sort) {
            int step = grams[sort];
            for (int weight = heaviest; weight >= step; weight--) {
                int all = ways[weight];
                for (int n = 1; n <= pieces[sort] && n * step <= weight; n++) {
                    all += ways[weight - n * step];
                }
                ways[weight] = all;
            }
        }
    }

    /** The HOUSES, and the lorry's ROUND through a set of them. */
    private static final class Houses {
        private static final int STAY = 5;
        private static final int WORKS = -1;

        final int[] kind = new int[MOST_HOUSES];
        private final int[] x = new int[MOST_HOUSES];
        private final int[] y = new int[MOST_HOUSES];
        private final int[] noon = new int[MOST_HOUSES];
        int size;
        private final int[] order = new int[MOST_HOUSES];
        final int[] bestOrder = new int[MOST_HOUSES];
        int bestLate;
        int bestMinutes;

        boolean has(int house) {
            return within(house, 0, size - 1);
        }

        int add(int kindOf, int east, int north, int noonMinute) {
            kind[size] = kindOf;
            x[size] = east;
            y[size] = north;
            noon[size] = noonMinute;
            size++;
            return size - 1;
        }

        void planRound(int set, int start) {
            bestLate = BEYOND_ALL;
            bestMinutes = BEYOND_ALL;
            visitRest(0, set, start, start, 0);
        }

        /** LATE and minutes only grow, so an order that begins no better than the best is left. */
        private void visitRest(int visited, int left, int start, int minute, int late) {
            if (!isBetter(late, minute - start)) {
                return;
            }
            if (left == 0) {
                goBack(visited, start, minute, late);
                return;
            }
            for (int house = 0; house < size; house++) {
                if ((left >> house & 1) != 0) {
                    order[visited] = house;
                    visitNext(visited, left, start, minute, late);
                }
            }
        }

        private void visitNext(int visited, int left, int start, int minute, int late) {
            int house = order[visited];
            int comes = minute + minutesApart(visited == 0 ? WORKS : order[visited - 1], house);
            int lateThen = late + asNumber(comes > noon[house]);
            visitRest(visited + 1, left & ~(1 << house), start, comes + STAY, lateThen);
        }

        private void goBack(int visited, int start, int minute, int late) {
            int minutes = minute - start + minutesApart(visited == 0 ? WORKS : order[visited - 1], WORKS);
            if (isBetter(late, minutes)) {
                bestLate = late;
                bestMinutes = minutes;
                System.arraycopy(order, 0, bestOrder, 0, visited);
            }
        }

        private boolean isBetter(int late, int minutes) {
            return late < bestLate || late == bestLate && minutes < bestMinutes;
        }

        private int minutesApart(int one, int other) {
            int east = (one == WORKS ? 0 : x[one]) - (other == WORKS ? 0 : x[other]);
            int north = (one == WORKS ? 0 : y[one]) - (other == WORKS ? 0 : y[other]);
            return Math.abs(east) + Math.abs(north);
        }
    }

    /** The book of two times: SHEETS and their MOVES, each of a DAY and KNOWN from another one on. */
    private static final class Book {
        static final int MOST_SHEETS = 150;
        private static final int MOST_MOVES = 600;

        int today;
        final int[] sortOf = new int[MOST_SHEETS];
        final int[] lotOf = new int[MOST_SHEETS];
        final int[] came = new int[MOST_SHEETS];
        /** The first MOVE of each SHEET by DAYS, and how many it has in all. */
        private final int[] firstMove = new int[MOST_SHEETS];
        private final int[] movesOf = new int[MOST_SHEETS];
        int sheets;

        final int[] sheetOf = new int[MOST_MOVES];
        final int[] dayOf = new int[MOST_MOVES];
        final int[] placeOf = new int[MOST_MOVES];
        private final int[] toldOn = new int[MOST_MOVES];
        private final int[] undoneOn = new int[MOST_MOVES];
        private final int[] bagOf = new int[MOST_MOVES];
        /** The next MOVE of the same SHEET by DAYS, of one DAY as they were told. */
        private final int[] nextMove = new int[MOST_MOVES];
        int moves;
        int takenBack;

        boolean has(int sheet) {
            return within(sheet, 0, sheets - 1);
        }

        boolean isFull() {
            return moves >= MOST_MOVES;
        }

        int addSheet(int sort, int lot) {
            sortOf[sheets] = sort;
            lotOf[sheets] = lot;
            came[sheets] = today;
            firstMove[sheets] = NONE;
            sheets++;
            return sheets - 1;
        }

        int addMove(int sheet, int day, int place, int bag) {
            int move = moves;
            moves++;
            sheetOf[move] = sheet;
            dayOf[move] = day;
            placeOf[move] = place;
            toldOn[move] = today;
            undoneOn[move] = NONE;
            bagOf[move] = bag;
            putInOrder(move, sheet);
            return move;
        }

        private void putInOrder(int move, int sheet) {
            int ahead = NONE;
            int behind = firstMove[sheet];
            for (int i = 0; i < movesOf[sheet] && behind != NONE && dayOf[behind] <= dayOf[move]; i++) {
                ahead = behind;
                behind = nextMove[behind];
            }
            nextMove[move] = behind;
            if (ahead == NONE) {
                firstMove[sheet] = move;
            } else {
                nextMove[ahead] = move;
            }
            movesOf[sheet]++;
        }

        boolean takeBack(int move) {
            if (!within(move, 0, moves - 1) || undoneOn[move] != NONE) {
                return false;
            }
            undoneOn[move] = today;
            takenBack++;
            return true;
        }

        boolean isRead(int sheet, int bag) {
            int move = firstMove[sheet];
            for (int i = 0; i < movesOf[sheet] && move != NONE; i++) {
                if (bagOf[move] == bag && undoneOn[move] == NONE) {
                    return true;
                }
                move = nextMove[move];
            }
            return false;
        }

        boolean hasCome(int sheet, int day, int known) {
            return came[sheet] <= day && came[sheet] <= known;
        }

        boolean isKnown(int move, int known) {
            return toldOn[move] <= known && (undoneOn[move] == NONE || undoneOn[move] > known);
        }

        private boolean isInHistory(int move, int day, int known) {
            return dayOf[move] <= day && isKnown(move, known);
        }

        int lastOf(int sheet, int day, int known) {
            int last = NONE;
            int move = firstMove[sheet];
            for (int i = 0; i < movesOf[sheet] && move != NONE; i++) {
                last = isInHistory(move, day, known) ? move : last;
                move = nextMove[move];
            }
            return last;
        }

        int lastInto(int place, int sheet, int day, int known) {
            int last = NONE;
            int move = firstMove[sheet];
            for (int i = 0; i < movesOf[sheet] && move != NONE; i++) {
                last = placeOf[move] == place && isInHistory(move, day, known) ? move : last;
                move = nextMove[move];
            }
            return last;
        }

        int placeAt(int sheet, int day, int known) {
            int last = lastOf(sheet, day, known);
            return last == NONE ? STOCK : placeOf[last];
        }

        int sinceAt(int sheet, int day, int known) {
            int last = lastOf(sheet, day, known);
            return last == NONE ? came[sheet] : dayOf[last];
        }

        int washesAt(int sheet, int day, int known) {
            int washes = 0;
            int ahead = STOCK;
            int move = firstMove[sheet];
            for (int i = 0; i < movesOf[sheet] && move != NONE; i++) {
                if (isInHistory(move, day, known)) {
                    washes += asNumber(ahead == WASH && placeOf[move] == STOCK);
                    ahead = placeOf[move];
                }
                move = nextMove[move];
            }
            return washes;
        }

        int nightsAt(int sheet, int place, int day, int known) {
            int nights = 0;
            int ahead = STOCK;
            int since = came[sheet];
            int move = firstMove[sheet];
            for (int i = 0; i < movesOf[sheet] && move != NONE; i++) {
                if (isInHistory(move, day, known)) {
                    nights += ahead == place ? dayOf[move] - since : 0;
                    ahead = placeOf[move];
                    since = dayOf[move];
                }
                move = nextMove[move];
            }
            return nights + (ahead == place ? day + 1 - since : 0);
        }

        boolean isAt(int place, int sheet, int day, int known) {
            return hasCome(sheet, day, known) && placeAt(sheet, day, known) == place;
        }

        int manyAt(int place, int sort, int day, int known) {
            int many = 0;
            for (int sheet = 0; sheet < sheets; sheet++) {
                many += asNumber(sortOf[sheet] == sort && isAt(place, sheet, day, known));
            }
            return many;
        }

        int toldOfSheet(int sheet, int what) {
            switch (what) {
                case 0: return sortOf[sheet];
                case 1: return lotOf[sheet];
                case 2: return came[sheet];
                case 3: return movesOf[sheet];
                default: return NONE;
            }
        }

        int toldOfMove(int move, int what) {
            switch (what) {
                case 10: return sheetOf[move];
                case 11: return dayOf[move];
                case 12: return placeOf[move];
                case 13: return toldOn[move];
                case 14: return undoneOn[move];
                default: return NONE;
            }
        }
    }

    /** What speaks of sheets beside their MOVES: BAGS and their MISSES, COUNTS, HEATS. */
    private static final class Evidence {
        static final int MOST = 60;
        private static final int MOST_MISSES = 12;

        private final Book book;
        final int[] missed = new int[LOTS];
        int beyond = 100;
        private final int[] bagHouse = new int[MOST];
        final int[] bagDay = new int[MOST];
        private final int[] bagTold = new int[MOST];
        int bags;
        private final int[] countHouse = new int[MOST];
        private final int[] countSort = new int[MOST];
        private final int[] countDay = new int[MOST];
        private final int[] countPieces = new int[MOST];
        private final int[] countTold = new int[MOST];
        int counts;
        private final int[] heatDay = new int[MOST];
        private final int[] heatDegrees = new int[MOST];
        private final int[] heatMinutes = new int[MOST];
        private final int[] heatTold = new int[MOST];
        int heats;

        Evidence(Book book) {
            this.book = book;
            Arrays.fill(missed, 1);
        }

        int addBag(int house, int day) {
            bagHouse[bags] = house;
            bagDay[bags] = day;
            bagTold[bags] = book.today;
            bags++;
            return bags - 1;
        }

        int addCount(int house, int sort, int day, int pieces) {
            countHouse[counts] = house;
            countSort[counts] = sort;
            countDay[counts] = day;
            countPieces[counts] = pieces;
            countTold[counts] = book.today;
            counts++;
            return counts;
        }

        int addHeat(int day, int degrees, int minutes) {
            heatDay[heats] = day;
            heatDegrees[heats] = degrees;
            heatMinutes[heats] = minutes;
            heatTold[heats] = book.today;
            heats++;
            return heats;
        }

        boolean hasHeat(int day, int known, int degrees, int minutes) {
            for (int i = 0; i < heats; i++) {
                if (heatDay[i] == day && heatTold[i] <= known && heatDegrees[i] >= degrees
                    && heatMinutes[i] >= minutes) {
                    return true;
                }
            }
            return false;
        }

        int missesOf(int sheet, int day, int known) {
            int last = book.lastOf(sheet, day, known);
            if (last == NONE || book.placeOf[last] < FIRST_HOUSE) {
                return 0;
            }
            int house = book.placeOf[last] - FIRST_HOUSE;
            int misses = 0;
            for (int i = 0; i < bags; i++) {
                misses += asNumber(bagHouse[i] == house && bagTold[i] <= known
                    && bagDay[i] > book.dayOf[last] && bagDay[i] <= day);
            }
            return Math.min(misses, MOST_MISSES);
        }

        /** Both sides stay below 2 to the 62: 15 to the 12 times 10,000, and 16 to the 12. */
        boolean isDoubted(int sheet, int day, int known) {
            int misses = missesOf(sheet, day, known);
            long byMissing = beyond;
            long all = 1;
            for (int i = 0; i < misses; i++) {
                byMissing *= missed[book.lotOf[sheet]];
                all *= 16;
            }
            return byMissing < all;
        }

        boolean isLostAt(int house, int sheet, int day, int known) {
            return book.isAt(FIRST_HOUSE + house, sheet, day, known) && isDoubted(sheet, day, known);
        }

        int lostAt(int house, int sort, int day, int known) {
            int lost = 0;
            for (int sheet = 0; sheet < book.sheets; sheet++) {
                lost += asNumber(book.sortOf[sheet] == sort && isLostAt(house, sheet, day, known));
            }
            return lost;
        }

        int shortAt(int house, int sort, int day, int known) {
            int most = 0;
            for (int i = 0; i < counts; i++) {
                if (countHouse[i] == house && countSort[i] == sort && countTold[i] <= known && countDay[i] <= day) {
                    int there = book.manyAt(FIRST_HOUSE + house, sort, countDay[i], known);
                    most = Math.max(most, there - countPieces[i]);
                }
            }
            return most;
        }
    }

    /** What a token or a part of TERMS is; those that stand as a word in the text bear it. */
    private enum Kind {
        LET("let"), PRICE("price"), LOSS("loss"), RETIRE("retire"), FEAST("feast"), MIX("mix"), HEAT("heat"),
        HOUSE("house"), WORKS("works"), POOL("pool"), TO("to"), BY("by"), WITH("with"), FOR("for"),
        IF("if"), THEN("then"), ELSE("else"), MIN("min"), MAX("max"), OR("or"), AND("and"), NOT("not"),
        WASHES("washes", 0), AGE("age", 1), LIFE("life", 2), WORTH("worth", 3), GRAMS("grams", 4),
        SORT("sort", 5), CLASS("kind", 6), DAYS("days", 7), MISSES("misses", 8), DAY("day", 9),
        NUMBER(""), NAME(""), SUM(""), PROD(""), MINUS(""), COMPARE("");

        /** How many things hold where an EX is asked. */
        static final int HELD = 10;

        final String word;
        /** Where what holds is kept: NONE, if this isn't such a WORD. */
        final int slot;

        Kind(String word) {
            this(word, NONE);
        }

        Kind(String word, int slot) {
            this.word = word;
            this.slot = slot;
        }
    }

    /** A part of TERMS: a statement, or of an EX or COND; its own parts are chained behind the first. */
    private static final class Node {
        final Kind kind;
        /** A NUMBER, the place of a NAME among all, or the first NUMBER of a statement (NONE without). */
        int number = NONE;
        int second;
        /** Whose part a "loss" is. */
        Kind party;
        String name = "";
        /** The sign that joins this part to that ahead of it. */
        char join;
        Node first;
        Node next;

        Node(Kind kind) {
            this.kind = kind;
        }

        static Node of(Kind kind, Node first) {
            Node node = new Node(kind);
            node.first = first;
            return node;
        }

        static String textOf(Node statements) {
            StringBuilder out = new StringBuilder();
            for (Node statement = statements; statement != null; statement = statement.next) {
                writeStatement(statement, out);
                out.append(';');
            }
            return out.toString();
        }

        private static void writeStatement(Node statement, StringBuilder out) {
            writeWord(statement.kind.word, out);
            switch (statement.kind) {
                case LET:
                    writeWord(statement.name, out);
                    break;
                case PRICE:
                    if (statement.number != NONE) {
                        writeNumber(statement.number, out);
                    }
                    break;
                case LOSS:
                    writeWord(statement.party == null ? "" : statement.party.word, out);
                    break;
                case FEAST:
                    writePair(statement, Kind.TO, out);
                    writeWord(Kind.BY.word, out);
                    break;
                case MIX:
                    writePair(statement, Kind.WITH, out);
                    break;
                case HEAT:
                    writePair(statement, Kind.FOR, out);
                    break;
                default:
                    break;
            }
            if (statement.first != null) {
                if (statement.kind != Kind.FEAST) {
                    out.append('=');
                }
                write(statement.first, out);
            }
        }

        private static void writePair(Node statement, Kind between, StringBuilder out) {
            writeNumber(statement.number, out);
            writeWord(between.word, out);
            writeNumber(statement.second, out);
        }

        private static void write(Node node, StringBuilder out) {
            switch (node.kind) {
                case NUMBER:
                    writeNumber(node.number, out);
                    break;
                case NAME:
                    writeWord(node.name, out);
                    break;
                case SUM:
                case PROD:
                case COMPARE:
                    writeJoined(node, out);
                    break;
                case MINUS:
                    out.append('-');
                    writePart(node.first, node.kind, false, out);
                    break;
                case OR:
                case AND:
                    writeConds(node, out);
                    break;
                case NOT:
                    writeWord(node.kind.word, out);
                    writePart(node.first, node.kind, false, out);
                    break;
                case IF:
                    writeIf(node, out);
                    break;
                case MIN:
                case MAX:
                    writeList(node, out);
                    break;
                default:
                    writeWord(node.kind.word, out);
                    break;
            }
        }

        private static void writeJoined(Node node, StringBuilder out) {
            for (Node part = node.first; part != null; part = part.next) {
                if (part != node.first) {
                    out.append(part.join);
                }
                writePart(part, node.kind, part == node.first, out);
            }
        }

        private static void writeConds(Node node, StringBuilder out) {
            for (Node part = node.first; part != null; part = part.next) {
                if (part != node.first) {
                    writeWord(node.kind.word, out);
                }
                writePart(part, node.kind, part == node.first, out);
            }
        }

        private static void writeIf(Node node, StringBuilder out) {
            Kind ahead = Kind.IF;
            for (Node part = node.first; part != null; part = part.next) {
                writeWord(ahead.word, out);
                write(part, out);
                ahead = ahead == Kind.IF ? Kind.THEN : Kind.ELSE;
            }
        }

        private static void writeList(Node node, StringBuilder out) {
            writeWord(node.kind.word, out);
            out.append('(');
            for (Node part = node.first; part != null; part = part.next) {
                if (part != node.first) {
                    out.append(',');
                }
                write(part, out);
            }
            out.append(')');
        }

        private static void writePart(Node part, Kind whole, boolean isFirst, StringBuilder out) {
            if (part == null) {
                return;
            }
            if (!isHeldApart(part.kind, whole, isFirst)) {
                write(part, out);
                return;
            }
            boolean isCond = part.kind == Kind.OR || part.kind == Kind.AND;
            out.append(isCond ? '[' : '(');
            write(part, out);
            out.append(isCond ? ']' : ')');
        }

        /** Whether a part would be read otherwise without "(" or "[" around it. */
        private static boolean isHeldApart(Kind part, Kind whole, boolean isFirst) {
            switch (whole) {
                case SUM: return part == Kind.IF || part == Kind.SUM && !isFirst;
                case PROD: return part == Kind.IF || part == Kind.SUM || part == Kind.PROD && !isFirst;
                case MINUS: return part == Kind.IF || part == Kind.SUM || part == Kind.PROD;
                case COMPARE: return part == Kind.IF;
                case AND: return part == Kind.OR;
                case NOT: return part == Kind.OR || part == Kind.AND;
                default: return false;
            }
        }

        private static void writeWord(String word, StringBuilder out) {
            partFromWord(out);
            out.append(word);
        }

        private static void writeNumber(int number, StringBuilder out) {
            partFromWord(out);
            out.append(number);
        }

        private static void partFromWord(StringBuilder out) {
            int length = out.length();
            if (length > 0 && (Reader.isLetter(out.charAt(length - 1)) || Reader.isDigit(out.charAt(length - 1)))) {
                out.append(' ');
            }
        }
    }

    /** Reads a text as TERMS: a chain of statements, or the place of its FAULT. */
    private static final class Reader {
        private static final String SIGNS = "=;+-*/%(),[]<>";
        private static final int MOST_STATEMENTS = 24;
        private static final int MOST_OPEN = 10;
        private static final int MOST_DIGITS = 9;
        private static final int MOST_LETTERS = 8;
        /** What a token (or a byte) is, where it's no sign, which is told by itself. */
        private static final char END = 1;
        private static final char LETTERS = 2;
        private static final char DIGITS = 3;
        private static final char BLANK = 4;
        private static final char NOTHING = 5;

        private char[] text = new char[0];
        private int length;
        /** All tokens, END last: from where to where, what each is, its NUMBER, its word of the grammar. */
        private final int[] starts = new int[MOST_BYTES + 1];
        private final int[] ends = new int[MOST_BYTES + 1];
        private final char[] tokens = new char[MOST_BYTES + 1];
        private final int[] numbers = new int[MOST_BYTES + 1];
        private final Kind[] words = new Kind[MOST_BYTES + 1];
        /** The token that is looked at. */
        private int at;
        private char token;
        private Kind word;
        private int open;
        private Node first;
        private Node last;
        int names;
        int fault;

        /** The first statement: null without any, and behind a FAULT. */
        Node readAll(char[] bytes, int size) {
            text = bytes;
            length = Math.min(size, Math.min(bytes.length, MOST_BYTES));
            scanAll();
            begin();
            for (int i = 0; i < MOST_STATEMENTS && token != END && fault == NONE; i++) {
                Node statement = readStatement();
                if (statement != null && pass(';')) {
                    chain(statement);
                }
            }
            if (token != END) {
                fail();
            }
            return fault == NONE ? first : null;
        }

        private void chain(Node statement) {
            if (last == null) {
                first = statement;
            } else {
                last.next = statement;
            }
            last = statement;
            names += asNumber(statement.kind == Kind.LET);
        }

        // -- tokens --

        static boolean isLetter(char c) {
            return 'a' <= c && c <= 'z';
        }

        static boolean isDigit(char c) {
            return '0' <= c && c <= '9';
        }

        /** Each token takes a byte at least, so that all of them and END have room. */
        private void scanAll() {
            int count = 0;
            for (int place = 0; place < length; place++) {
                char kind = kindOf(text[place]);
                boolean isLong = kind == LETTERS || kind == DIGITS;
                if (isLong && count > 0 && tokens[count - 1] == kind && ends[count - 1] == place) {
                    ends[count - 1]++;
                } else if (kind != BLANK) {
                    starts[count] = place;
                    ends[count] = place + 1;
                    tokens[count] = kind;
                    count++;
                }
            }
            for (int i = 0; i < count; i++) {
                words[i] = tokens[i] == LETTERS ? wordOf(i) : null;
                readDigits(i);
            }
            starts[count] = length;
            ends[count] = length;
            tokens[count] = END;
            words[count] = null;
        }

        private static char kindOf(char c) {
            if (c == ' ' || c == '\n') {
                return BLANK;
            }
            if (isLetter(c)) {
                return LETTERS;
            }
            if (isDigit(c)) {
                return DIGITS;
            }
            return SIGNS.indexOf(c) >= 0 ? c : NOTHING;
        }

        /** The word of the grammar that a token is: null, if it's another. */
        private Kind wordOf(int i) {
            for (int k = 0; k < KINDS.length; k++) {
                if (isWritten(KINDS[k].word, i)) {
                    return KINDS[k];
                }
            }
            return null;
        }

        /** A token of more digits than a NUMBER has is none. */
        private void readDigits(int i) {
            if (tokens[i] == DIGITS && ends[i] - starts[i] > MOST_DIGITS) {
                tokens[i] = NOTHING;
            }
            numbers[i] = 0;
            for (int place = starts[i]; place < ends[i] && tokens[i] == DIGITS; place++) {
                numbers[i] = numbers[i] * 10 + text[place] - '0';
            }
        }

        private boolean isWritten(String other, int i) {
            boolean alike = other.length() == ends[i] - starts[i];
            for (int k = 0; k < other.length() && alike; k++) {
                alike = other.charAt(k) == text[starts[i] + k];
            }
            return alike;
        }

        private void begin() {
            at = 0;
            token = tokens[0];
            word = words[0];
            open = 0;
            first = null;
            last = null;
            names = 0;
            fault = NONE;
        }

        private void step() {
            if (token != END) {
                at++;
                token = tokens[at];
                word = words[at];
            }
        }

        private Node fail() {
            if (fault == NONE) {
                fault = starts[at];
            }
            return null;
        }

        /** Steps over a sign that must come. */
        private boolean pass(char sign) {
            if (fault != NONE || token != sign) {
                fail();
                return false;
            }
            step();
            return true;
        }

        /** Steps over a word that must come. */
        private boolean passWord(Kind due) {
            if (fault != NONE || word != due) {
                fail();
                return false;
            }
            step();
            return true;
        }

        /** Steps over a NUMBER that must come: NONE, if it doesn't. */
        private int passNumber() {
            if (fault != NONE || token != DIGITS) {
                fail();
                return NONE;
            }
            int passed = numbers[at];
            step();
            return passed;
        }

        /** Steps over the first token of what is open till it ends. */
        private boolean opens() {
            if (open >= MOST_OPEN) {
                fail();
                return false;
            }
            open++;
            step();
            return true;
        }

        private Node closes(Node node) {
            open--;
            return fault == NONE ? node : null;
        }

        // -- statements --

        private Node readStatement() {
            if (word == null) {
                return fail();
            }
            Node statement = new Node(word);
            switch (word) {
                case LET:
                    step();
                    readNewName(statement);
                    break;
                case PRICE:
                    step();
                    statement.number = token == DIGITS ? passNumber() : NONE;
                    break;
                case LOSS:
                    step();
                    readParty(statement);
                    break;
                case RETIRE:
                    step();
                    break;
                case FEAST:
                    step();
                    readPair(statement, Kind.TO);
                    break;
                case MIX:
                    step();
                    readPair(statement, Kind.WITH);
                    break;
                case HEAT:
                    step();
                    readPair(statement, Kind.FOR);
                    break;
                default:
                    return fail();
            }
            return fault == NONE ? readRest(statement) : null;
        }

        /** What stands behind the head of a statement: "mix" and "heat" have no EX. */
        private Node readRest(Node statement) {
            if (statement.kind == Kind.MIX || statement.kind == Kind.HEAT) {
                return statement;
            }
            boolean passed = statement.kind == Kind.FEAST ? passWord(Kind.BY) : pass('=');
            statement.first = passed ? readEx() : null;
            return fault == NONE ? statement : null;
        }

        private void readNewName(Node statement) {
            boolean isName = token == LETTERS && word == null && ends[at] - starts[at] <= MOST_LETTERS;
            if (!isName || letHere() != null) {
                fail();
                return;
            }
            StringBuilder name = new StringBuilder();
            for (int i = starts[at]; i < ends[at]; i++) {
                name.append(text[i]);
            }
            statement.name = name.toString();
            statement.number = names;
            step();
        }

        private void readParty(Node statement) {
            if (word != Kind.HOUSE && word != Kind.WORKS && word != Kind.POOL) {
                fail();
                return;
            }
            statement.party = word;
            step();
        }

        private void readPair(Node statement, Kind between) {
            statement.number = passNumber();
            passWord(between);
            statement.second = passNumber();
        }

        /** The "let" ahead that told the NAME which the token is: null without one. */
        private Node letHere() {
            for (Node statement = first; statement != null; statement = statement.next) {
                if (statement.kind == Kind.LET && isWritten(statement.name, at)) {
                    return statement;
                }
            }
            return null;
        }

        // -- EX: each function answers null behind a FAULT --

        private Node readEx() {
            return word == Kind.IF ? readIf() : readSum();
        }

        private Node readIf() {
            if (!opens()) {
                return null;
            }
            Node test = readCond();
            Node then = passWord(Kind.THEN) ? readEx() : null;
            Node other = passWord(Kind.ELSE) ? readEx() : null;
            if (test == null || then == null || other == null) {
                return null;
            }
            then.next = other;
            test.next = then;
            return closes(Node.of(Kind.IF, test));
        }

        private Node readSum() {
            Node part = readProd();
            if (part == null || token != '+' && token != '-') {
                return part;
            }
            Node sum = Node.of(Kind.SUM, part);
            for (int i = 0; i < length && part != null && (token == '+' || token == '-'); i++) {
                char join = token;
                step();
                part = append(part, join, readProd());
            }
            return part == null ? null : sum;
        }

        private Node readProd() {
            Node part = readAtom();
            if (part == null || !isTimes()) {
                return part;
            }
            Node prod = Node.of(Kind.PROD, part);
            for (int i = 0; i < length && part != null && isTimes(); i++) {
                char join = token;
                step();
                part = append(part, join, readAtom());
            }
            return part == null ? null : prod;
        }

        private boolean isTimes() {
            return token == '*' || token == '/' || token == '%';
        }

        private static Node append(Node ahead, char join, Node part) {
            if (part != null) {
                part.join = join;
                ahead.next = part;
            }
            return part;
        }

        private Node readAtom() {
            if (token == DIGITS) {
                Node node = new Node(Kind.NUMBER);
                node.number = passNumber();
                return node;
            }
            if (token == '(') {
                return opens() ? readToParen(readEx()) : null;
            }
            if (token == '-') {
                return opens() ? closes(Node.of(Kind.MINUS, readAtom())) : null;
            }
            if (word == Kind.MIN || word == Kind.MAX) {
                return readList(word);
            }
            return token == LETTERS ? readWord() : fail();
        }

        private Node readToParen(Node node) {
            return pass(')') ? closes(node) : null;
        }

        private Node readList(Kind kind) {
            if (!opens() || !pass('(')) {
                return null;
            }
            Node part = readEx();
            Node list = Node.of(kind, part);
            for (int i = 0; i < length && part != null && token == ','; i++) {
                step();
                part = append(part, ',', readEx());
            }
            return part == null ? null : readToParen(list);
        }

        private Node readWord() {
            Node let = letHere();
            boolean isTold = word == null ? let != null : word.slot != NONE;
            if (!isTold) {
                return fail();
            }
            Node node = new Node(word == null ? Kind.NAME : word);
            if (let != null) {
                node.number = let.number;
                node.name = let.name;
            }
            step();
            return node;
        }

        // -- COND --

        private Node readCond() {
            Node part = readAll();
            if (part == null || word != Kind.OR) {
                return part;
            }
            Node cond = Node.of(Kind.OR, part);
            for (int i = 0; i < length && part != null && word == Kind.OR; i++) {
                step();
                part = append(part, ' ', readAll());
            }
            return part == null ? null : cond;
        }

        private Node readAll() {
            Node part = readTest();
            if (part == null || word != Kind.AND) {
                return part;
            }
            Node all = Node.of(Kind.AND, part);
            for (int i = 0; i < length && part != null && word == Kind.AND; i++) {
                step();
                part = append(part, ' ', readTest());
            }
            return part == null ? null : all;
        }

        private Node readTest() {
            if (word == Kind.NOT) {
                return opens() ? closes(Node.of(Kind.NOT, readTest())) : null;
            }
            if (token == '[') {
                return opens() ? readToBracket(readCond()) : null;
            }
            Node left = readSum();
            if (left == null || token != '<' && token != '>' && token != '=') {
                return fail();
            }
            char join = token;
            step();
            Node right = append(left, join, readSum());
            return right == null ? null : Node.of(Kind.COMPARE, left);
        }

        private Node readToBracket(Node node) {
            return pass(']') ? closes(node) : null;
        }
    }

    /** TERMS that were taken: their statements, how they're WRITTEN, and what an EX of theirs is. */
    private static final class Terms {
        private static final long MOST = 1_000_000_000_000L;

        final int from;
        final String text;
        final Node statements;
        /** What holds where an EX is asked, by the slots of its WORDS; what each NAME is by that. */
        private final long[] held;
        private final long[] names;

        Terms(int from, Node statements, int names, String text, long[] held) {
            this.from = from;
            this.statements = statements;
            this.text = text;
            this.held = held;
            this.names = new long[names];
        }

        Node lastOf(Kind kind) {
            Node last = null;
            for (Node statement = statements; statement != null; statement = statement.next) {
                last = statement.kind == kind ? statement : last;
            }
            return last;
        }

        /** The last "price" of a SORT, else the last without a NUMBER: null, if there is none. */
        Node lastPrice(int sort) {
            Node own = null;
            Node common = null;
            for (Node statement = statements; statement != null; statement = statement.next) {
                if (statement.kind == Kind.PRICE) {
                    own = statement.number == sort ? statement : own;
                    common = statement.number == NONE ? statement : common;
                }
            }
            return own == null ? common : own;
        }

        Node lastLoss(Kind party) {
            Node last = null;
            for (Node statement = statements; statement != null; statement = statement.next) {
                last = statement.kind == Kind.LOSS && statement.party == party ? statement : last;
            }
            return last;
        }

        Node firstFeast(int day) {
            for (Node statement = statements; statement != null; statement = statement.next) {
                if (statement.kind == Kind.FEAST && statement.number <= day && day <= statement.second) {
                    return statement;
                }
            }
            return null;
        }

        boolean hasName(int k) {
            return within(k, 0, names.length - 1);
        }

        long nameOf(int k) {
            return hasName(k) ? names[k] : 0;
        }

        /** What the EX of a statement is, behind nameAll() for what holds. */
        long exOfStatement(Node statement) {
            return exOf(statement.first);
        }

        /** All NAMES in their order, so that none is found more than once however often it's used. */
        void nameAll() {
            int k = 0;
            for (Node statement = statements; statement != null; statement = statement.next) {
                if (statement.kind == Kind.LET && k < names.length) {
                    names[k] = exOf(statement.first);
                    k++;
                }
            }
        }

        private long exOf(Node node) {
            if (node == null) {
                return 0;
            }
            switch (node.kind) {
                case NUMBER: return node.number;
                case NAME: return hasName(node.number) ? names[node.number] : 0;
                case MINUS: return -exOf(node.first);
                case IF: return exOfIf(node.first);
                case SUM:
                case PROD:
                case MIN:
                case MAX: return exOfParts(node);
                default: return within(node.kind.slot, 0, held.length - 1) ? held[node.kind.slot] : 0;
            }
        }

        private long exOfIf(Node test) {
            Node then = test == null ? null : test.next;
            if (then == null) {
                return 0;
            }
            return holds(test) ? exOf(then) : exOf(then.next);
        }

        private long exOfParts(Node node) {
            long result = exOf(node.first);
            Node second = node.first == null ? null : node.first.next;
            for (Node part = second; part != null; part = part.next) {
                long other = exOf(part);
                switch (node.kind) {
                    case MIN: result = Math.min(result, other); break;
                    case MAX: result = Math.max(result, other); break;
                    default: result = joined(result, part.join, other); break;
                }
            }
            return result;
        }

        private static long joined(long one, char join, long other) {
            switch (join) {
                case '+': return heldTo(one + other);
                case '-': return heldTo(one - other);
                case '*': return times(one, other);
                case '/': return other == 0 ? 0 : one / other;
                case '%': return other == 0 ? 0 : one % other;
                default: return 0;
            }
        }

        private static long heldTo(long result) {
            return Math.max(-MOST, Math.min(MOST, result));
        }

        /** Looks ahead, as the product may be too great for a long. */
        private static long times(long one, long other) {
            if (one == 0 || other == 0) {
                return 0;
            }
            if (Math.abs(one) > MOST / Math.abs(other)) {
                return one > 0 == other > 0 ? MOST : -MOST;
            }
            return one * other;
        }

        private boolean holds(Node node) {
            if (node == null) {
                return false;
            }
            switch (node.kind) {
                case NOT: return !holds(node.first);
                case AND: return !hasPart(node, false);
                case OR: return hasPart(node, true);
                default: return compares(node.first);
            }
        }

        private boolean hasPart(Node node, boolean that) {
            for (Node part = node.first; part != null; part = part.next) {
                if (holds(part) == that) {
                    return true;
                }
            }
            return false;
        }

        private boolean compares(Node left) {
            if (left == null || left.next == null) {
                return false;
            }
            long one = exOf(left);
            long other = exOf(left.next);
            switch (left.next.join) {
                case '<': return one < other;
                case '>': return one > other;
                default: return one == other;
            }
        }
    }

    /** The TERMS taken, and all that goes by those in force: prices, parts, wants, proofs. */
    private static final class Ledger {
        static final int THE_HOUSE = 0;
        static final int THE_WORKS = 1;
        static final int THE_POOL = 2;
        private static final int PARTIES = 3;
        private static final int MOST = 8;
        private static final int MOST_WANTED = 1000;

        private final Sorts sorts;
        private final Houses houses;
        private final Book book;
        private final Evidence evidence;
        final Terms[] taken = new Terms[MOST];
        int size;
        /** What each HOUSE wants of each SORT on each day of the week. */
        final int[][] wants = new int[MOST_HOUSES][MOST_SORTS * WEEK];
        /** What holds where an EX is asked, by the slots of its WORDS. */
        private final long[] held = new long[Kind.HELD];
        private final long[] shares = new long[PARTIES];
        private final long[] parts = new long[PARTIES];
        private final long[] rests = new long[PARTIES];

        Ledger(Sorts sorts, Houses houses, Book book, Evidence evidence) {
            this.sorts = sorts;
            this.houses = houses;
            this.book = book;
            this.evidence = evidence;
        }

        boolean isFull() {
            return size >= MOST;
        }

        int take(Node statements, int names, String text) {
            taken[size] = new Terms(book.today, statements, names, text, held);
            size++;
            return size - 1;
        }

        /** Those taken last by a DAY: null, if none were. */
        private Terms inForce(int day) {
            for (int i = size - 1; i >= 0; i--) {
                if (taken[i].from <= day) {
                    return taken[i];
                }
            }
            return null;
        }

        // -- what holds --

        private void holdDay(int day) {
            Arrays.fill(held, 0);
            held[Kind.DAY.slot] = day;
        }

        private void holdSort(int sort) {
            held[Kind.LIFE.slot] = sorts.life[sort];
            held[Kind.WORTH.slot] = sorts.worth[sort];
            held[Kind.GRAMS.slot] = sorts.grams[sort];
            held[Kind.SORT.slot] = sort;
        }

        private void holdHouse(int house) {
            held[Kind.CLASS.slot] = houses.kind[house];
        }

        private void holdSheet(int sheet, int day, int known) {
            holdDay(day);
            holdSort(book.sortOf[sheet]);
            held[Kind.WASHES.slot] = book.washesAt(sheet, day, known);
            held[Kind.AGE.slot] = day - book.came[sheet];
        }

        /** A SHEET with what holds of it where it is, if that is a HOUSE. */
        private void holdSheetInPlace(int sheet, int day, int known) {
            holdSheet(sheet, day, known);
            int place = book.placeAt(sheet, day, known);
            if (place >= FIRST_HOUSE) {
                holdHouse(place - FIRST_HOUSE);
                held[Kind.DAYS.slot] = day - book.sinceAt(sheet, day, known);
                held[Kind.MISSES.slot] = evidence.missesOf(sheet, day, known);
            }
        }

        // -- proofs --

        boolean isProven(int day, int known) {
            Terms terms = inForce(day);
            Node heat = terms == null ? null : terms.lastOf(Kind.HEAT);
            int degrees = heat == null ? 0 : heat.number;
            int minutes = heat == null ? 0 : heat.second;
            return evidence.hasHeat(day, known, degrees, minutes);
        }

        private boolean isUnsafe(int sheet, int known) {
            int place = book.placeAt(sheet, book.today, known);
            if (place != STOCK && place < FIRST_HOUSE) {
                return false;
            }
            int wash = book.lastInto(WASH, sheet, book.today, known);
            return wash != NONE && !isProven(book.dayOf[wash], known);
        }

        int unsafeSheet(int k, int known) {
            int left = k;
            for (int sheet = 0; sheet < book.sheets; sheet++) {
                if (book.hasCome(sheet, book.today, known) && isUnsafe(sheet, known)) {
                    if (left == 0) {
                        return sheet;
                    }
                    left--;
                }
            }
            return NONE;
        }

        // -- values and prices --

        long valueNow(int sheet, int k) {
            Terms terms = inForce(book.today);
            if (terms == null || !terms.hasName(k)) {
                return NO_VALUE;
            }
            holdSheetInPlace(sheet, book.today, book.today);
            terms.nameAll();
            return terms.nameOf(k);
        }

        long priceOn(int sheet, int house, int day, int known) {
            int sort = book.sortOf[sheet];
            Terms terms = inForce(day);
            Node statement = terms == null ? null : terms.lastPrice(sort);
            if (statement == null) {
                return sorts.worth[sort] / 20;
            }
            holdSheet(sheet, day, known);
            holdHouse(house);
            terms.nameAll();
            return Math.max(0, terms.exOfStatement(statement));
        }

        long billOf(int house, int from, int to, int known) {
            long sum = 0;
            for (int move = 0; move < book.moves; move++) {
                int day = book.dayOf[move];
                if (book.placeOf[move] == FIRST_HOUSE + house && within(day, from, to) && book.isKnown(move, known)) {
                    sum += priceOn(book.sheetOf[move], house, day, known);
                }
            }
            return sum;
        }

        // -- losses --

        long partOf(int house, int who, int day, int known) {
            Terms terms = inForce(day);
            long sum = 0;
            for (int sheet = 0; sheet < book.sheets; sheet++) {
                if (evidence.isLostAt(house, sheet, day, known)) {
                    holdSheetInPlace(sheet, day, known);
                    if (terms != null) {
                        terms.nameAll();
                    }
                    shares[THE_HOUSE] = shareBy(terms, Kind.HOUSE, 1);
                    shares[THE_WORKS] = shareBy(terms, Kind.WORKS, 0);
                    shares[THE_POOL] = shareBy(terms, Kind.POOL, 0);
                    sum += partOfValue(lostValue(sheet, day, known), who);
                }
            }
            return sum;
        }

        private long shareBy(Terms terms, Kind party, int without) {
            Node statement = terms == null ? null : terms.lastLoss(party);
            return statement == null ? without : Math.max(0, terms.exOfStatement(statement));
        }

        private int lostValue(int sheet, int day, int known) {
            int sort = book.sortOf[sheet];
            int left = Math.max(0, sorts.life[sort] - book.washesAt(sheet, day, known));
            return sorts.life[sort] == 0 ? 0 : sorts.worth[sort] * left / sorts.life[sort];
        }

        private long partOfValue(int lost, int who) {
            long all = shares[THE_HOUSE] + shares[THE_WORKS] + shares[THE_POOL];
            if (all <= 0) {
                return who == THE_POOL ? lost : 0;
            }
            long left = lost;
            for (int i = 0; i < PARTIES; i++) {
                parts[i] = lost * shares[i] / all;
                rests[i] = lost * shares[i] % all;
                left -= parts[i];
            }
            for (int i = 0; i < PARTIES && i < left; i++) {
                int party = greatestRest();
                parts[party]++;
                rests[party] = -1;
            }
            return parts[who];
        }

        private int greatestRest() {
            int greatest = THE_HOUSE;
            for (int i = THE_WORKS; i < PARTIES; i++) {
                greatest = rests[i] > rests[greatest] ? i : greatest;
            }
            return greatest;
        }

        // -- retirement, wants, mixes --

        private boolean isDue(int sheet) {
            int today = book.today;
            if (book.placeAt(sheet, today, today) != STOCK) {
                return false;
            }
            Terms terms = inForce(today);
            Node statement = terms == null ? null : terms.lastOf(Kind.RETIRE);
            if (statement == null) {
                return book.washesAt(sheet, today, today) >= sorts.life[book.sortOf[sheet]];
            }
            holdSheetInPlace(sheet, today, today);
            terms.nameAll();
            return terms.exOfStatement(statement) > 0;
        }

        int dueSheet(int k) {
            int left = k;
            for (int sheet = 0; sheet < book.sheets; sheet++) {
                if (isDue(sheet)) {
                    if (left == 0) {
                        return sheet;
                    }
                    left--;
                }
            }
            return NONE;
        }

        int wantedOn(int sort, int day) {
            Terms terms = inForce(day);
            Node feast = terms == null ? null : terms.firstFeast(day);
            long sum = 0;
            for (int house = 0; house < houses.size; house++) {
                long pieces = wants[house][sort * WEEK + day % WEEK];
                if (feast != null) {
                    holdDay(day);
                    holdSort(sort);
                    holdHouse(house);
                    terms.nameAll();
                    pieces = pieces * terms.exOfStatement(feast) / 100;
                    pieces = Math.max(0, Math.min(MOST_WANTED, pieces));
                }
                sum += pieces;
            }
            return (int) sum;
        }

        /** Bit one times CLASSES and other: whether a "mix" in force TODAY has both. */
        int mixes() {
            int mixes = 0;
            Terms terms = inForce(book.today);
            for (Node node = terms == null ? null : terms.statements; node != null; node = node.next) {
                if (node.kind == Kind.MIX && node.number < CLASSES && node.second < CLASSES) {
                    mixes |= 1 << node.number * CLASSES + node.second;
                    mixes |= 1 << node.second * CLASSES + node.number;
                }
            }
            return mixes;
        }
    }

    /** The NIGHT: of all ORDERS of the JOBS through WASHERS and DRYERS the best. */
    private static final class Night {
        static final int MOST_WASHERS = 3;
        static final int MOST_DRYERS = 3;
        static final int MOST_JOBS = 7;

        private final Sorts sorts;
        private final int[] washerLoad = new int[MOST_WASHERS];
        private final int[] washerMinutes = new int[MOST_WASHERS];
        private final int[] washerChange = new int[MOST_WASHERS];
        int washers;
        int dryers = 1;
        private final int[] jobSort = new int[MOST_JOBS];
        private final int[] jobPieces = new int[MOST_JOBS];
        private final int[] jobDue = new int[MOST_JOBS];
        int jobs;
        /** Where the search stands: when each machine is free, each washer's last CLASS. */
        private int mixes;
        private final int[] washerFree = new int[MOST_WASHERS];
        private final int[] washerClass = new int[MOST_WASHERS];
        private final int[] dryerFree = new int[MOST_DRYERS];
        private final int[] order = new int[MOST_JOBS];
        private final int[] dryAt = new int[MOST_JOBS];
        final int[] bestOrder = new int[MOST_JOBS];
        final int[] bestDryAt = new int[MOST_JOBS];
        int bestLate;
        int bestEnd;

        Night(Sorts sorts) {
            this.sorts = sorts;
        }

        int addWasher(int load, int minutes, int change) {
            washerLoad[washers] = load;
            washerMinutes[washers] = minutes;
            washerChange[washers] = change;
            washers++;
            return washers - 1;
        }

        int addJob(int sort, int pieces, int due) {
            jobSort[jobs] = sort;
            jobPieces[jobs] = pieces;
            jobDue[jobs] = due;
            jobs++;
            return jobs - 1;
        }

        void plan(int mixesInForce) {
            mixes = mixesInForce;
            bestLate = BEYOND_ALL;
            bestEnd = BEYOND_ALL;
            Arrays.fill(washerFree, 0);
            Arrays.fill(washerClass, NONE);
            Arrays.fill(dryerFree, 0);
            search(0, 0, 0, 0);
        }

        /** LATE and END only grow, so an ORDER that begins no better than the best is left. */
        private void search(int depth, int done, int late, int end) {
            boolean isBetter = late < bestLate || late == bestLate && end < bestEnd;
            if (!isBetter) {
                return;
            }
            if (depth >= jobs) {
                bestLate = late;
                bestEnd = end;
                System.arraycopy(order, 0, bestOrder, 0, jobs);
                System.arraycopy(dryAt, 0, bestDryAt, 0, jobs);
                return;
            }
            for (int job = 0; job < jobs; job++) {
                if ((done >> job & 1) == 0) {
                    order[depth] = job;
                    tryNext(depth, done, late, end);
                }
            }
        }

        private void tryNext(int depth, int done, int late, int end) {
            int job = order[depth];
            int washer = firstReady(job);
            int dryer = firstDryer();
            int washerWas = washerFree[washer];
            int classWas = washerClass[washer];
            int dryerWas = dryerFree[dryer];
            int ready = readyOn(washer, job);
            int dry = Math.max(ready, dryerWas) + sorts.dry[jobSort[job]] * ((jobPieces[job] + 9) / 10);
            washerFree[washer] = ready;
            washerClass[washer] = sorts.kind[jobSort[job]];
            dryerFree[dryer] = dry;
            dryAt[job] = dry;
            int lateThen = late + (dry > jobDue[job] ? jobPieces[job] : 0);
            search(depth + 1, done | 1 << job, lateThen, Math.max(end, dry));
            washerFree[washer] = washerWas;
            washerClass[washer] = classWas;
            dryerFree[dryer] = dryerWas;
        }

        private int firstReady(int job) {
            int first = 0;
            for (int washer = 1; washer < washers; washer++) {
                first = readyOn(washer, job) < readyOn(first, job) ? washer : first;
            }
            return first;
        }

        private int firstDryer() {
            int first = 0;
            for (int dryer = 1; dryer < dryers; dryer++) {
                first = dryerFree[dryer] < dryerFree[first] ? dryer : first;
            }
            return first;
        }

        private int readyOn(int washer, int job) {
            int load = Math.max(1, washerLoad[washer]);
            int loads = (jobPieces[job] * sorts.grams[jobSort[job]] + load - 1) / load;
            int change = needsChange(washerClass[washer], sorts.kind[jobSort[job]]) ? washerChange[washer] : 0;
            return washerFree[washer] + change + washerMinutes[washer] * loads;
        }

        private boolean needsChange(int last, int next) {
            return last != NONE && last != next && (mixes >> last * CLASSES + next & 1) == 0;
        }
    }

    /** BUYING: lots bought on the first of some DAYS so that what is wanted is there on each. */
    private static final class Supply {
        static final int MOST_DAYS = 10;
        private static final int MOST_LOTS = 5;

        int pieces = 10;
        int coins = 50;
        int keep = 1;
        int back = 3;
        final int[] wants = new int[MOST_DAYS];
        /** By the DAY and the lots bought ahead of it: the fewest coins from then on, the lots for them. */
        private final int[][] fewest = new int[MOST_DAYS + 1][MOST_DAYS * MOST_LOTS + 1];
        private final int[][] lots = new int[MOST_DAYS][MOST_DAYS * MOST_LOTS + 1];

        /** What is there depends on the lots bought alone, as what is wanted goes out in any case. */
        void plan(int days, int stock) {
            Arrays.fill(fewest[days], 0);
            for (int day = days - 1; day >= 0; day--) {
                int there = stock;
                for (int i = 0; i <= day; i++) {
                    there -= wants[i];
                    there += i >= back ? wants[i - back] : 0;
                }
                for (int bought = 0; bought <= day * MOST_LOTS; bought++) {
                    choose(day, bought, there + bought * pieces);
                }
            }
        }

        /** The fewest lots first, so that of several that cost alike they are taken. */
        private void choose(int day, int bought, int there) {
            fewest[day][bought] = BEYOND_ALL;
            for (int n = 0; n <= MOST_LOTS; n++) {
                int left = there + n * pieces;
                int later = fewest[day + 1][bought + n];
                if (left >= 0 && later < BEYOND_ALL && n * coins + left * keep + later < fewest[day][bought]) {
                    fewest[day][bought] = n * coins + left * keep + later;
                    lots[day][bought] = n;
                }
            }
        }

        boolean canBe() {
            return fewest[0][0] < BEYOND_ALL;
        }

        int fewestCoins() {
            return fewest[0][0];
        }

        int lotsOn(int k) {
            int bought = 0;
            for (int day = 0; day < k; day++) {
                bought += lots[day][bought];
            }
            return lots[k][bought];
        }
    }
}
