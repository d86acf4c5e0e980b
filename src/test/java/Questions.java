import java.util.ArrayList;
import java.util.List;

/** Asks a pool of all that its calls tell of its state, so that two pools can be held against each other. */
final class Questions {
    /** A pool may be asked as often as this and have been called as often ahead, below 512 in all. */
    static final int MOST = 330;

    private final LinenPool pool;
    private final List<Long> answers = new ArrayList<>();

    private Questions(LinenPool pool) {
        this.pool = pool;
    }

    /** The answers, in an order of their own; nothing that is put into the pool on the way is taken back. */
    static String all(LinenPool pool) {
        Questions questions = new Questions(pool);
        questions.askBook();
        questions.askEvidence();
        questions.askTerms();
        questions.askPlans();
        questions.askNextNumbers();
        if (questions.answers.size() > MOST) {
            throw new IllegalStateException("too many questions: " + questions.answers.size());
        }
        return questions.answers.toString();
    }

    private void put(long answer) {
        answers.add(answer);
    }

    private void askBook() {
        int today = pool.count(0);
        for (int what = 0; what <= 12; what++) {
            put(pool.count(what));
        }
        for (int sheet = 0; sheet < 3; sheet++) {
            for (int what = 0; what <= 3; what++) {
                put(pool.told(sheet, what));
            }
            for (int day = Math.max(0, today - 9); day <= today; day += 3) {
                put(pool.where(sheet, day, today));
                put(pool.where(sheet, today, day));
            }
            put(pool.since(sheet, today, today));
            put(pool.washes(sheet, today, today));
            put(pool.nights(sheet, 0, today, today));
        }
        for (int move = 0; move < 5; move++) {
            for (int what = 10; what <= 14; what++) {
                put(pool.told(move, what));
            }
        }
        put(pool.many(0, 0, today, today));
        put(pool.many(10, 1, today, today));
    }

    private void askEvidence() {
        int today = pool.count(0);
        for (int day = Math.max(0, today - 3); day <= today; day++) {
            put(pool.proven(day, today));
        }
        for (int sheet = 0; sheet < 3; sheet++) {
            put(pool.unsafe(sheet, today));
            put(pool.misses(sheet, today, today));
            put(pool.doubt(sheet, today, today));
        }
        for (int house = 0; house < 2; house++) {
            for (int sort = 0; sort < 2; sort++) {
                put(pool.lost(house, sort, today, today));
                put(pool.shortOf(house, sort, today, today));
                put(pool.load(house, 10, 0, 0, 2 * sort));
            }
            put(pool.load(house, 35, 0, 50, -1));
        }
    }

    private void askTerms() {
        int today = pool.count(0);
        int last = pool.count(6) - 1;
        put(pool.fault());
        put(pool.written(last, -1));
        for (int i = 0; i < 30; i++) {
            put(pool.written(last, i));
        }
        for (int sheet = 0; sheet < 2; sheet++) {
            for (int k = 0; k < 3; k++) {
                put(pool.value(sheet, k));
            }
            put(pool.due(sheet));
            put(pool.price(sheet, 0));
            put(pool.price(sheet, 1));
            put(pool.bill(sheet, 0, 1000, today));
        }
        for (int who = 0; who < 3; who++) {
            put(pool.part(0, who, today, today));
        }
    }

    private void askPlans() {
        for (int sort = 0; sort < 2; sort++) {
            for (int day = 0; day < 7; day++) {
                put(pool.wanted(sort, day));
            }
        }
        for (int what : new int[] {0, 1, 10, 11, 12, 20, 21, 22}) {
            put(pool.night(what));
        }
        for (int what : new int[] {0, 1, 10, 11}) {
            put(pool.round(3, 7, what));
        }
        for (int what = 0; what < 4; what++) {
            put(pool.buy(0, 3, what));
            put(pool.buy(1, 10, what));
        }
    }

    /** What the next of each would be, and what stands on the tape. */
    private void askNextNumbers() {
        int bytes = pool.count(9);
        put(pool.terms(bytes));
        put(pool.fault());
        int last = pool.count(6) - 1;
        for (int i = -1; i < 30; i++) {
            put(pool.written(last, i));
        }
        put(pool.sort(1, 1, 1, 1, 1));
        put(pool.house(1, 1, 1, 1));
        put(pool.sheet(0, 0));
        put(pool.bag(0, 0));
        put(pool.read(pool.count(5) - 1, 0));
        put(pool.move(0, pool.count(0), 1));
        put(pool.heat(0, 0, 0));
        put(pool.counted(0, 0, 0, 0));
        put(pool.washer(1, 1, 1));
        put(pool.job(0, 1, 1));
        put(pool.night(0));
        put(pool.clear());
        put(pool.feed(1, 2, 3, 4, 5));
        put(pool.day(pool.count(0) + 1) ? 1 : 0);
        put(pool.undo(0) ? 1 : 0);
    }
}
