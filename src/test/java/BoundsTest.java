import java.util.function.Supplier;

/**
 * Every argument of every call: the least and the greatest number that is taken, one below, one beyond, and far
 * off to both sides, where numbers wrap around. A call that is refused does nothing: all questions are answered
 * as without it.
 */
public final class BoundsTest {
    private static final Check CHECK = new Check();
    private static final int[] FAR = {Integer.MIN_VALUE, Integer.MIN_VALUE + 1, -1_000_000, 1_000_000,
        Integer.MAX_VALUE - 1, Integer.MAX_VALUE};
    private static final long NO_VALUE = -2_000_000_000_000L;

    /** A call with its arguments in a row. */
    private interface Call {
        long ask(LinenPool pool, int[] with);
    }

    public static void main(String[] args) {
        made();
        book();
        history();
        evidence();
        loads();
        terms();
        money();
        plans();
        asked();
        CHECK.end();
    }

    /** Some of all there is: 2 SORTS, 2 HOUSES, 2 SHEETS of DAY 2, TODAY 10. */
    private static LinenPool pool() {
        LinenPool pool = new LinenPool();
        pool.sort(10, 0, 5, 20, 100);
        pool.sort(25, 1, 8, 1, 60);
        pool.house(1, 3, 4, 60);
        pool.house(2, 10, 0, 100);
        pool.day(2);
        pool.sheet(0, 0);
        pool.sheet(1, 1);
        pool.day(9);
        pool.move(0, 4, 10);
        pool.day(10);
        pool.move(1, 5, 2);
        pool.move(1, 5, 0);
        pool.move(1, 6, 11);
        pool.bag(0, 5);
        pool.bag(0, 9);
        pool.heat(9, 60, 10);
        pool.counted(0, 0, 9, 0);
        pool.beyond(200);
        pool.want(0, 0, 3, 5);
        pool.want(1, 1, 4, 6);
        pool.washer(100, 30, 10);
        pool.job(0, 10, 45);
        pool.job(1, 4, 80);
        Texts.take(pool, "let a=day;let b=worth;price=washes+3;loss works=2;retire=worth-90;heat 5 for 6;");
        Texts.feed(pool, "let c=1;feast 1 to 2 by 3;let d=2;");
        return pool;
    }

    private static String named(String call, int[] with) {
        return call + java.util.Arrays.toString(with);
    }

    private static int[] with(int[] usual, int place, int number) {
        int[] with = usual.clone();
        with[place] = number;
        return with;
    }

    private static void taken(String call, Call ask, int[] with, long refusal) {
        CHECK.due(named(call, with) + " is taken", ask.ask(pool(), with) != refusal, true);
    }

    private static void refused(String call, Call ask, int[] with, long refusal) {
        refused(named(call, with), BoundsTest::pool, pool -> ask.ask(pool, with), refusal);
    }

    private interface Ask {
        long of(LinenPool pool);
    }

    private static void refused(String call, Supplier<LinenPool> made, Ask ask, long refusal) {
        LinenPool pool = made.get();
        CHECK.due(call, ask.of(pool), refusal);
        CHECK.due(call + " does nothing", Questions.all(pool), Questions.all(made.get()));
    }

    /** The argument at a place is taken from least to most and refused beyond, the others being as usual. */
    private static void bound(String call, Call ask, long refusal, int[] usual, int place, int least, int most) {
        taken(call, ask, with(usual, place, least), refusal);
        taken(call, ask, with(usual, place, most), refusal);
        refused(call, ask, with(usual, place, least - 1), refusal);
        refused(call, ask, with(usual, place, most + 1), refusal);
        for (int far : FAR) {
            refused(call, ask, with(usual, place, far), refusal);
        }
    }

    /** All arguments: the bounds are least and most of the first, then of the next. */
    private static void bounds(String call, Call ask, long refusal, int[] usual, int... bounds) {
        for (int place = 0; place < usual.length; place++) {
            bound(call, ask, refusal, usual, place, bounds[2 * place], bounds[2 * place + 1]);
        }
    }

    private static long asNumber(boolean answer) {
        return answer ? 1 : 0;
    }

    private static int[] row(int... numbers) {
        return numbers;
    }

    private static void made() {
        bounds("2: sort", (p, a) -> p.sort(a[0], a[1], a[2], a[3], a[4]), -1, row(30, 2, 45, 100, 500),
            1, 60, 0, 3, 1, 90, 1, 250, 1, 1000);
        bounds("3: house", (p, a) -> p.house(a[0], a[1], a[2], a[3]), -1, row(1, 50, 50, 700),
            0, 3, 0, 99, 0, 99, 0, 1440);
        bounds("4: sheet", (p, a) -> p.sheet(a[0], a[1]), -1, row(1, 2), 0, 1, 0, 3);
        bounds("5: day", (p, a) -> asNumber(p.day(a[0])), 0, row(11), 11, 1000);
    }

    private static void book() {
        Call move = (p, a) -> p.move(a[0], a[1], a[2]);
        bound("6: move, sheet", move, -1, row(1, 5, 10), 0, 0, 1);
        bound("6: move, day", move, -1, row(1, 5, 10), 1, 2, 10);
        for (int place : new int[] {0, 1, 2, 3, 4, 10, 11}) {
            taken("6: move, place", move, row(1, 5, place), -1);
        }
        for (int place : new int[] {-1, 5, 6, 7, 8, 9, 12, 13, 17, 18}) {
            refused("6: move, place", move, row(1, 5, place), -1);
        }
        for (int place : FAR) {
            refused("6: move, place", move, row(1, 5, place), -1);
        }
        bounds("7: undo", (p, a) -> asNumber(p.undo(a[0])), 0, row(1), 0, 3);
        refused("7: undone already", () -> {
            LinenPool pool = pool();
            pool.undo(1);
            return pool;
        }, pool -> asNumber(pool.undo(1)), 0);
    }

    /** SHEETS came on DAY 2, so that DAYS below it have no answer either. */
    private static void history() {
        bounds("8: where", (p, a) -> p.where(a[0], a[1], a[2]), -1, row(1, 5, 10), 0, 1, 2, 1000, 2, 1000);
        bounds("9: since", (p, a) -> p.since(a[0], a[1], a[2]), -1, row(1, 5, 10), 0, 1, 2, 1000, 2, 1000);
        bounds("10: washes", (p, a) -> p.washes(a[0], a[1], a[2]), -1, row(1, 5, 10), 0, 1, 2, 1000, 2, 1000);
        bounds("11: nights", (p, a) -> p.nights(a[0], a[1], a[2], a[3]), -1, row(1, 1, 5, 10),
            0, 1, 0, 1, 2, 1000, 2, 1000);
        Call many = (p, a) -> p.many(a[0], a[1], a[2], a[3]);
        bound("12: many, sort", many, -1, row(10, 1, 5, 10), 1, 0, 1);
        bound("12: many, day", many, -1, row(10, 1, 5, 10), 2, 0, 1000);
        bound("12: many, known", many, -1, row(10, 1, 5, 10), 3, 0, 1000);
        for (int place : new int[] {0, 1, 2, 3, 4, 10, 11}) {
            taken("12: many, place", many, row(place, 1, 5, 10), -1);
        }
        for (int place : new int[] {Integer.MIN_VALUE, -1, 5, 9, 12, 17, Integer.MAX_VALUE}) {
            refused("12: many, place", many, row(place, 1, 5, 10), -1);
        }
        bounds("20: misses", (p, a) -> p.misses(a[0], a[1], a[2]), -1, row(1, 5, 10), 0, 1, 2, 1000, 2, 1000);
        bounds("21: doubt", (p, a) -> p.doubt(a[0], a[1], a[2]), -1, row(1, 5, 10), 0, 1, 2, 1000, 2, 1000);
    }

    private static void evidence() {
        bounds("13: heat", (p, a) -> p.heat(a[0], a[1], a[2]), -1, row(5, 60, 10), 0, 10, 0, 120, 0, 200);
        bounds("14: proven", (p, a) -> p.proven(a[0], a[1]), -1, row(5, 10), 0, 1000, 0, 1000);
        // the one SHEET that was washed is UNSAFE, KNOWN from 10 on
        bounds("15: unsafe", (p, a) -> p.unsafe(a[0], a[1]), -1, row(0, 10), 0, 0, 10, 1000);
        bounds("16: lot", (p, a) -> asNumber(p.lot(a[0], a[1])), 0, row(1, 7), 0, 3, 0, 15);
        bounds("17: beyond", (p, a) -> asNumber(p.beyond(a[0])), 0, row(50), 2, 10_000);
        bounds("18: bag", (p, a) -> p.bag(a[0], a[1]), -1, row(1, 5), 0, 1, 0, 10);
        bounds("19: read", (p, a) -> p.read(a[0], a[1]), -1, row(1, 1), 0, 1, 0, 1);
        bounds("22: lost", (p, a) -> p.lost(a[0], a[1], a[2], a[3]), -1, row(1, 1, 5, 10),
            0, 1, 0, 1, 0, 1000, 0, 1000);
        bounds("23: counted", (p, a) -> p.counted(a[0], a[1], a[2], a[3]), -1, row(1, 1, 5, 9),
            0, 1, 0, 1, 0, 10, 0, 1000);
        bounds("24: shortOf", (p, a) -> p.shortOf(a[0], a[1], a[2], a[3]), -1, row(1, 1, 5, 10),
            0, 1, 0, 1, 0, 1000, 0, 1000);
    }

    private static void loads() {
        bounds("25: load", (p, a) -> p.load(a[0], a[1], a[2], a[3], a[4]), -2, row(1, 30, 10, 20, 1),
            0, 1, 0, 9000, 0, 20, 10, 200, -1, 3);
        bound("25: load, p and q alike", (p, a) -> p.load(1, 30, a[0], a[0], 1), -2, row(0), 0, 0, 200);
    }

    private static void terms() {
        bounds("27: terms", (p, a) -> p.terms(a[0]), -2, row(34), 0, 40);
        int length = pool().written(0, -1);
        CHECK.due("29: written, length", length, 79);
        bounds("29: written", (p, a) -> p.written(a[0], a[1]), -1, row(0, 5), 0, 0, -1, length - 1);
        bounds("30: value", (p, a) -> p.value(a[0], a[1]), NO_VALUE, row(1, 1), 0, 1, 0, 1);
        refused("26: feed", () -> {
            LinenPool pool = pool();
            for (int i = 0; i < 18; i++) {
                pool.feed(i, i, i, i, i);
            }
            return pool;
        }, pool -> pool.feed(1, 2, 3, 4, 5), -1);
        refused("27: there are 8", () -> {
            LinenPool pool = pool();
            for (int i = 0; i < 7; i++) {
                Texts.take(pool, "let e=" + i + ";");
            }
            Texts.feed(pool, "let f=1;");
            return pool;
        }, pool -> pool.terms(8), -3);
        refused("27: there are 8, a FAULT", () -> {
            LinenPool pool = pool();
            for (int i = 0; i < 7; i++) {
                Texts.take(pool, "let e=" + i + ";");
            }
            Texts.feed(pool, "let f=?;");
            return pool;
        }, pool -> pool.terms(8), -3);
    }

    private static void money() {
        bounds("31: price", (p, a) -> p.price(a[0], a[1]), -1, row(1, 1), 0, 1, 0, 1);
        bounds("32: bill", (p, a) -> p.bill(a[0], a[1], a[2], a[3]), -1, row(1, 5, 8, 10),
            0, 1, 0, 1000, 0, 1000, 0, 1000);
        bounds("33: part", (p, a) -> p.part(a[0], a[1], a[2], a[3]), -1, row(1, 1, 5, 10),
            0, 1, 0, 2, 0, 1000, 0, 1000);
        // SHEET 0 is at a HOUSE: none is due; two more come into STOCK, of WORTH 100 both
        Call due = (p, a) -> {
            p.sheet(0, 0);
            p.sheet(0, 0);
            return p.due(a[0]);
        };
        for (int k : new int[] {0, 1}) {
            CHECK.due("34: due " + k, due.ask(pool(), row(k)), 2 + k);
        }
        for (int k : new int[] {Integer.MIN_VALUE, -2, -1, 2, 3, Integer.MAX_VALUE}) {
            CHECK.due("34: due " + k, due.ask(pool(), row(k)), -1);
        }
        bounds("35: want", (p, a) -> asNumber(p.want(a[0], a[1], a[2], a[3])), 0, row(1, 1, 3, 7),
            0, 1, 0, 1, 0, 6, 0, 50);
        bounds("36: wanted", (p, a) -> p.wanted(a[0], a[1]), -1, row(1, 4), 0, 1, 0, 1010);
    }

    private static void plans() {
        bounds("37: washer", (p, a) -> p.washer(a[0], a[1], a[2]), -1, row(50, 50, 50), 1, 5000, 1, 200, 0, 100);
        bounds("38: dryers", (p, a) -> asNumber(p.dryers(a[0])), 0, row(2), 1, 3);
        bounds("39: job", (p, a) -> p.job(a[0], a[1], a[2]), -1, row(1, 50, 50), 0, 1, 1, 200, 0, 1440);
        Call round = (p, a) -> p.round(a[0], a[1], a[2]);
        bound("42: round, set", round, -1, row(3, 7, 0), 0, 0, 3);
        bound("42: round, minute", round, -1, row(3, 7, 0), 1, 0, 1440);
        bounds("43: supply", (p, a) -> asNumber(p.supply(a[0], a[1], a[2], a[3])), 0, row(5, 50, 5, 5),
            1, 20, 0, 1000, 0, 100, 1, 10);
        bounds("44: buy", (p, a) -> p.buy(a[0], a[1], a[2]), -1, row(1, 3, 1), 0, 1, 1, 10, 0, 3);
    }

    /** Calls whose last argument tells what is asked: with gaps between the numbers that are taken. */
    private static void asked() {
        asked("41: night", (p, a) -> p.night(a[0]), row(0), 0, 1, 10, 11, 20, 21);
        asked("42: round", (p, a) -> p.round(3, 7, a[0]), row(0), 0, 1, 10, 11);
        asked("42: round of one", (p, a) -> p.round(2, 7, a[0]), row(0), 0, 1, 10);
        asked("42: round of none", (p, a) -> p.round(0, 7, a[0]), row(0), 0, 1);
        asked("45: told of a sheet", (p, a) -> p.told(1, a[0]), row(0), 0, 1, 2, 3, 10, 11, 12, 13);
        asked("46: count", (p, a) -> p.count(a[0]), row(0), 0, 1, 2, 3, 4, 5, 6, 7, 8, 9, 10, 11, 12);
        bound("45: told of sheets", (p, a) -> p.told(a[0], 3), -1, row(0), 0, 0, 1);
        bound("45: told of moves", (p, a) -> p.told(a[0], 10), -1, row(0), 0, 0, 3);
        CHECK.due("45: a move that isn't undone", pool().told(3, 14), -1);
        CHECK.due("45: no such move", pool().told(4, 14), -1);
    }

    private static void asked(String call, Call ask, int[] usual, int... taken) {
        for (int what = -40; what <= 40; what++) {
            boolean isTaken = false;
            for (int one : taken) {
                isTaken = isTaken || one == what;
            }
            if (isTaken) {
                taken(call, ask, with(usual, 0, what), -1);
            } else {
                refused(call, ask, with(usual, 0, what), -1);
            }
        }
        for (int far : FAR) {
            refused(call, ask, with(usual, 0, far), -1);
        }
    }
}
