import java.util.Random;

/** Runs of 512 calls at random: the class and the model must answer each alike (promises 1 to 46). */
public final class RandomRunsTest {
    private static final int RUNS = 1500;
    private static final int CALLS = 512;

    private final Check check;
    private final int run;
    private final Random random;
    private final LinenPool pool = new LinenPool();
    private final Model model = new Model();
    private int calls;

    private RandomRunsTest(Check check, int run) {
        this.check = check;
        this.run = run;
        this.random = new Random(run);
    }

    public static void main(String[] args) {
        int from = args.length > 0 ? Integer.parseInt(args[0]) : 0;
        int runs = args.length > 1 ? Integer.parseInt(args[1]) : RUNS;
        Check check = new Check();
        for (int run = from; run < from + runs; run++) {
            new RandomRunsTest(check, run).go();
            new RandomRunsTest(check, run).goWithTexts();
        }
        check.end();
    }

    private void due(String call, long got, long want, int... with) {
        calls++;
        StringBuilder text = new StringBuilder("run " + run + " call " + calls + ": " + call + "(");
        for (int number : with) {
            text.append(number).append(' ');
        }
        check.due(text.append(")").toString(), got, want);
    }

    private void due(String call, boolean got, boolean want, int... with) {
        due(call, got ? 1 : 0, want ? 1 : 0, with);
    }

    private boolean chance(int of) {
        return random.nextInt(of) == 0;
    }

    /** A number from a to b, now and then one of the ends, beyond them or far off. */
    private int pick(int a, int b) {
        switch (random.nextInt(24)) {
            case 0: return a;
            case 1: return b;
            case 2: return chance(2) ? a - 1 : b + 1;
            case 3: return chance(8) ? (chance(2) ? Integer.MIN_VALUE : Integer.MAX_VALUE) : a;
            default: return (long) b - a < 0 || (long) b - a > 1_000_000 ? a : a + random.nextInt(b - a + 1);
        }
    }

    private int aSort() {
        return pick(0, model.sorts.size() - 1);
    }

    private int aHouse() {
        return pick(0, model.houses.size() - 1);
    }

    /** Mostly one of the first, so that some SHEETS have many MOVES. */
    private int aSheet() {
        return chance(3) ? pick(0, model.sheets.size() - 1) : pick(0, Math.min(5, model.sheets.size() - 1));
    }

    private int aPlace() {
        return chance(4) ? pick(0, 4) : chance(2) ? 2 * random.nextInt(2) : 10 + aHouse();
    }

    /** A DAY about TODAY. */
    private int aDay() {
        return chance(12) ? pick(0, 1000) : pick(Math.max(0, model.today - 12), model.today);
    }

    /** Long texts one behind the other, asked for SHEETS in STOCK and at a HOUSE. */
    private void goWithTexts() {
        makeSort();
        makeHouse();
        makeSheet();
        makeSheet();
        due("day", pool.day(3), model.day(3), 3);
        due("move", pool.move(0, 1, 10), model.move(0, 1, 10));
        for (int i = 0; i < 12; i++) {
            takeText(new TextMaker(random).text(1 + random.nextInt(6), 2 + random.nextInt(6)));
            for (int k = 0; k < 4; k++) {
                due("value", pool.value(0, k), model.value(0, k), 0, k);
                due("value", pool.value(1, k), model.value(1, k), 1, k);
            }
            due("price", pool.price(0, 0), model.price(0, 0));
            due("wanted", pool.wanted(0, 3), model.wanted(0, 3));
        }
    }

    /** Most runs begin with some of all, as few calls would have an answer without. */
    private void setUp() {
        for (int i = 1 + random.nextInt(3); i > 0; i--) {
            makeSort();
        }
        for (int i = 1 + random.nextInt(4); i > 0; i--) {
            makeHouse();
        }
        for (int i = 2 + random.nextInt(run % 8 == 0 ? 150 : 12); i > 0; i--) {
            makeSheet();
        }
        for (int i = random.nextInt(4); i > 0; i--) {
            int lot = random.nextInt(4);
            int missed = random.nextInt(16);
            due("lot", pool.lot(lot, missed), model.lot(lot, missed), lot, missed);
        }
        if (chance(2)) {
            int beyond = 2 + random.nextInt(9);
            due("beyond", pool.beyond(beyond), model.beyond(beyond), beyond);
        }
        int day = 1 + random.nextInt(9);
        due("day", pool.day(day), model.day(day), day);
        if (run % 5 == 0) {
            loseSome(day);
        }
    }

    /** SHEETS go to a HOUSE and its BAGS come back without them. */
    private void loseSome(int day) {
        for (int sheet = 0; sheet < Math.min(8, model.sheets.size()); sheet++) {
            int house = random.nextInt(Math.min(2, Math.max(1, model.houses.size())));
            due("move", pool.move(sheet, day, 10 + house), model.move(sheet, day, 10 + house), sheet);
        }
        for (int i = 0; i < 6; i++) {
            int next = model.today + 1 + random.nextInt(2);
            due("day", pool.day(next), model.day(next), next);
            int house = random.nextInt(2);
            due("bag", pool.bag(house, next), model.bag(house, next), house, next);
        }
        takeText("loss house=" + random.nextInt(9) + "-days%2;loss works=" + random.nextInt(5)
            + "+misses;loss pool=" + random.nextInt(4) + "*(kind-1);");
    }

    private void go() {
        int style = run % 4;
        if (!chance(8)) {
            setUp();
        }
        while (calls < CALLS) {
            switch (style == 0 ? random.nextInt(8) : random.nextInt(4) + (chance(3) ? 4 : 0)) {
                case 0:
                    if (calls < 60 || chance(20)) {
                        makeOne();
                    } else {
                        moveOne();
                    }
                    break;
                case 1:
                    moveOne();
                    break;
                case 2:
                    askHistory();
                    break;
                case 3:
                    askEvidence();
                    break;
                case 4:
                    takeTerms();
                    break;
                case 5:
                    askMoney();
                    break;
                case 6:
                    askPlans();
                    break;
                default:
                    askWants();
                    break;
            }
        }
    }

    private void makeSort() {
        int grams = pick(1, 60);
        int kind = pick(0, 3);
        int dry = pick(1, 90);
        int life = chance(2) ? pick(1, 250) : pick(1, 4);
        int worth = pick(1, 1000);
        due("sort", pool.sort(grams, kind, dry, life, worth), model.sort(grams, kind, dry, life, worth), grams, kind);
    }

    private void makeHouse() {
        int kind = pick(0, 3);
        int x = pick(0, 99);
        int y = pick(0, 99);
        int noon = chance(2) ? pick(0, 1440) : pick(0, 300);
        due("house", pool.house(kind, x, y, noon), model.house(kind, x, y, noon), kind, x, y, noon);
    }

    private void makeSheet() {
        int sort = aSort();
        int lot = pick(0, 3);
        due("sheet", pool.sheet(sort, lot), model.sheet(sort, lot), sort, lot);
    }

    private void makeOne() {
        switch (random.nextInt(6)) {
            case 0:
                makeSort();
                break;
            case 1:
                makeHouse();
                break;
            case 2:
                int day = model.today + pick(-1, 4);
                due("day", pool.day(day), model.day(day), day);
                break;
            default:
                makeSheet();
                break;
        }
    }

    private void moveOne() {
        int sheet = aSheet();
        int day = aDay();
        int place = aPlace();
        switch (random.nextInt(10)) {
            case 0:
                int move = pick(0, model.moves.size() - 1);
                due("undo", pool.undo(move), model.undo(move), move);
                break;
            case 1:
                int next = model.today + pick(0, 3);
                due("day", pool.day(next), model.day(next), next);
                break;
            case 2:
                int house = aHouse();
                due("bag", pool.bag(house, day), model.bag(house, day), house, day);
                break;
            case 3:
                int bag = pick(0, model.bags.size() - 1);
                due("read", pool.read(bag, sheet), model.read(bag, sheet), bag, sheet);
                break;
            default:
                due("move", pool.move(sheet, day, place), model.move(sheet, day, place), sheet, day, place);
                break;
        }
    }

    private void askHistory() {
        int s = aSheet();
        int h = aHouse();
        int d = aDay();
        int k = aDay();
        int place = aPlace();
        int sort = aSort();
        int what = pick(0, 14);
        int n = chance(2) ? s : pick(0, model.moves.size() - 1);
        switch (random.nextInt(8)) {
            case 0: due("where", pool.where(s, d, k), model.where(s, d, k), s, d, k); break;
            case 1: due("since", pool.since(s, d, k), model.since(s, d, k), s, d, k); break;
            case 2: due("washes", pool.washes(s, d, k), model.washes(s, d, k), s, d, k); break;
            case 3: due("nights", pool.nights(s, h, d, k), model.nights(s, h, d, k), s, h, d, k); break;
            case 4: due("many", pool.many(place, sort, d, k), model.many(place, sort, d, k), place, sort, d, k); break;
            case 5: due("told", pool.told(n, what), model.told(n, what), n, what); break;
            case 6: due("count", pool.count(what), model.count(what), what); break;
            default: due("misses", pool.misses(s, d, k), model.misses(s, d, k), s, d, k); break;
        }
    }

    private void askEvidence() {
        int s = aSheet();
        int h = aHouse();
        int d = aDay();
        int k = aDay();
        int t = aSort();
        int n = pick(0, 15);
        switch (random.nextInt(10)) {
            case 0:
                int degrees = pick(0, 120);
                int minutes = pick(0, 200);
                due("heat", pool.heat(d, degrees, minutes), model.heat(d, degrees, minutes), d, degrees, minutes);
                break;
            case 1: due("proven", pool.proven(d, k), model.proven(d, k), d, k); break;
            case 2: due("unsafe", pool.unsafe(n / 4, k), model.unsafe(n / 4, k), n / 4, k); break;
            case 3:
                int lot = pick(0, 3);
                due("lot", pool.lot(lot, n), model.lot(lot, n), lot, n);
                break;
            case 4:
                int beyond = chance(2) ? pick(2, 10000) : pick(2, 40);
                due("beyond", pool.beyond(beyond), model.beyond(beyond), beyond);
                break;
            case 5: due("doubt", pool.doubt(s, d, k), model.doubt(s, d, k), s, d, k); break;
            case 6: due("lost", pool.lost(h, t, d, k), model.lost(h, t, d, k), h, t, d, k); break;
            case 7:
                int pieces = chance(8) ? pick(0, 1000) : n / 4;
                due("counted", pool.counted(h, t, d, pieces), model.counted(h, t, d, pieces), h, t, d, pieces);
                break;
            case 8: due("shortOf", pool.shortOf(h, t, d, k), model.shortOf(h, t, d, k), h, t, d, k); break;
            default: askLoad(h); break;
        }
    }

    private void askLoad(int h) {
        int there = 0;
        for (int sheet = 0; sheet < model.sheets.size(); sheet++) {
            there += model.where(sheet, model.today, model.today) >= 10 ? 1 : 0;
        }
        if (there > 40) {
            return;
        }
        int weight = chance(4) ? pick(0, 9000) : pick(0, 300);
        int p = pick(0, chance(2) ? 200 : 30);
        int q = pick(p, 200);
        int what = pick(-1, 2 * model.sorts.size() - 1);
        due("load", pool.load(h, weight, p, q, what), model.load(h, weight, p, q, what), h, weight, p, q, what);
    }

    private void takeTerms() {
        if (!chance(4) && model.terms.size() > 2 || model.terms.size() == 8 && !chance(5)) {
            askMoney();
            return;
        }
        String text = new TextMaker(random).text(random.nextInt(9), random.nextInt(5));
        takeText(text);
    }

    private void takeText(String text) {
        int trail = chance(5) ? random.nextInt(30) : 0;
        for (int i = 0; i < text.length() + trail; i += 20) {
            int[] n = new int[5];
            for (int j = 0; j < 20; j++) {
                n[j / 4] = n[j / 4] << 8 | (i + j < text.length() ? text.charAt(i + j) : random.nextInt(256));
            }
            due("feed", pool.feed(n[0], n[1], n[2], n[3], n[4]), model.feed(n));
        }
        int size = chance(12) ? pick(-1, model.tape.length()) : Math.min(text.length(), model.tape.length());
        due("terms '" + text + "'", pool.terms(size), model.terms(size), size);
        due("fault '" + text + "'", pool.fault(), model.fault);
        int last = model.terms.size() - 1;
        if (model.fault == -1 && last >= 0) {
            check.due("run " + run + " written '" + text + "'", Texts.written(pool, last), model.terms.get(last).written());
        }
    }

    private void askMoney() {
        int s = aSheet();
        int h = aHouse();
        int d = aDay();
        int k = aDay();
        int b = aDay();
        int n = pick(0, 4);
        switch (random.nextInt(8)) {
            case 0:
            case 1:
            case 2: due("value", pool.value(s, n), model.value(s, n), s, n); break;
            case 3: due("price", pool.price(s, h), model.price(s, h), s, h); break;
            case 4: due("bill", pool.bill(h, b, d, k), model.bill(h, b, d, k), h, b, d, k); break;
            case 5: due("part", pool.part(h, n, d, k), model.part(h, n, d, k), h, n, d, k); break;
            case 6: due("due", pool.due(n), model.due(n), n); break;
            default:
                int t = pick(0, model.terms.size() - 1);
                int i = pick(-1, 80);
                due("written", pool.written(t, i), model.written(t, i), t, i);
                break;
        }
    }

    private void askPlans() {
        int n = pick(0, 4);
        switch (random.nextInt(8)) {
            case 0:
                int load = chance(2) ? pick(1, 5000) : pick(1, 500);
                int minutes = pick(1, 200);
                int change = pick(0, 100);
                due("washer", pool.washer(load, minutes, change), model.washer(load, minutes, change), load);
                break;
            case 1: due("dryers", pool.dryers(n), model.dryers(n), n); break;
            case 2:
            case 3:
                int sort = aSort();
                int pieces = pick(1, 200);
                int late = pick(0, 1440);
                due("job", pool.job(sort, pieces, late), model.job(sort, pieces, late), sort, pieces, late);
                break;
            case 4:
                if (chance(4)) {
                    due("clear", pool.clear(), model.clear());
                }
                break;
            case 5:
                if (model.jobs.size() < 6 || chance(10)) {
                    int what = chance(3) ? n : chance(2) ? 10 + pick(0, 6) : 20 + pick(0, 6);
                    due("night", pool.night(what), model.night(what), what);
                }
                break;
            default:
                int houses = model.houses.size();
                int set = pick(0, (1 << houses) - 1);
                if (Integer.bitCount(set) < 7 || set < 0 || chance(30)) {
                    int minute = chance(2) ? pick(0, 1440) : pick(0, 200);
                    int what = chance(3) ? n : 10 + pick(0, 7);
                    due("round", pool.round(set, minute, what), model.round(set, minute, what), set, minute, what);
                }
                break;
        }
    }

    private void askWants() {
        int h = aHouse();
        int s = aSort();
        int n = pick(0, 4);
        switch (random.nextInt(5)) {
            case 0:
            case 1:
                int weekday = pick(0, 6);
                int pieces = chance(3) ? pick(0, 50) : n;
                due("want", pool.want(h, s, weekday, pieces), model.want(h, s, weekday, pieces), h, s, weekday);
                break;
            case 2:
                int day = chance(2) ? pick(0, 1010) : aDay() + n;
                due("wanted", pool.wanted(s, day), model.wanted(s, day), s, day);
                break;
            case 3:
                int lots = pick(1, 20);
                int coins = chance(3) ? 0 : pick(0, 1000);
                int keep = chance(3) ? 0 : pick(0, 100);
                int back = pick(1, 10);
                due("supply", pool.supply(lots, coins, keep, back), model.supply(lots, coins, keep, back), lots);
                break;
            default:
                int d = chance(8) ? pick(-1, 6) : pick(1, 5);
                due("buy", pool.buy(s, d, n), model.buy(s, d, n), s, d, n);
                break;
        }
    }
}
