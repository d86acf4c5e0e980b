/** Promise 25 and the LOADS of "==== 2.": cut up and cut, of each SORT as many as are there, 1,000,000 at most. */
public final class EdgesOfLoadsTest {
    private static final Check CHECK = new Check();

    public static void main(String[] args) {
        cutUp();
        cut();
        weightOfNothing();
        heaviest();
        asManyAsAreThere();
        leastAndGreatest();
        oneMillionAtMost();
        noWayAndNotAsTold();
        sortsAsked();
        CHECK.end();
    }

    /** One SORT of GRAMS 1, so many SHEETS of it at HOUSE 0. */
    private static LinenPool ones(int sheets) {
        LinenPool pool = new LinenPool();
        pool.sort(1, 0, 1, 1, 1);
        pool.house(0, 0, 0, 0);
        for (int i = 0; i < sheets; i++) {
            pool.sheet(0, 0);
            pool.move(i, 0, 10);
        }
        return pool;
    }

    /** Of pieces of 1 the least and the greatest number are the bounds of the dry weight themselves. */
    private static void bounds(LinenPool pool, int weight, int p, int q, int least, int greatest) {
        String call = weight + " at " + p + " to " + q;
        CHECK.due("least of " + call, pool.load(0, weight, p, q, 0), least);
        CHECK.due("greatest of " + call, pool.load(0, weight, p, q, 1), greatest);
        int ways = least == -1 ? -1 : greatest - least + 1;
        CHECK.due("ways of " + call, pool.load(0, weight, p, q, -1), ways);
    }

    /** "from WEIGHT times 100 by (100 and q), cut up" */
    private static void cutUp() {
        LinenPool pool = ones(140);
        // 10,000 by 101 is 99 and 1 over
        bounds(pool, 100, 0, 1, 100, 100);
        // 10,100 by 101 is 100
        bounds(pool, 101, 0, 1, 100, 101);
        // 10,200 by 101 is 100 and 100 over
        bounds(pool, 102, 0, 1, 101, 102);
        // by 300: 33 and 100 over, 33 and 200 over, 34
        bounds(pool, 100, 0, 200, 34, 100);
        bounds(pool, 101, 0, 200, 34, 101);
        bounds(pool, 102, 0, 200, 34, 102);
        bounds(pool, 103, 0, 200, 35, 103);
        bounds(pool, 1, 0, 200, 1, 1);
    }

    /** "to that by (100 and p), cut" */
    private static void cut() {
        LinenPool pool = ones(140);
        // 20,000 by 300 is 66 and 200 over, so the least is 67; by 299 it's 66 and 266 over
        bounds(pool, 200, 199, 200, -1, -1);
        bounds(pool, 201, 200, 200, 67, 67);
        bounds(pool, 202, 200, 200, -1, -1);
        // 10,000 by 101 is 99 and 1 over; 10,099 is none; 10,200 by 101 is 100 and 100 over
        bounds(pool, 100, 1, 200, 34, 99);
        bounds(pool, 101, 1, 200, 34, 100);
        bounds(pool, 102, 1, 200, 34, 100);
        bounds(pool, 1, 1, 1, -1, -1);
        bounds(pool, 1, 0, 0, 1, 1);
        bounds(pool, 140, 0, 0, 140, 140);
        bounds(pool, 141, 0, 0, -1, -1);
        bounds(pool, 141, 0, 1, 140, 140);
    }

    private static void weightOfNothing() {
        LinenPool pool = ones(2);
        bounds(pool, 0, 0, 0, 0, 0);
        bounds(pool, 0, 0, 200, 0, 0);
        bounds(pool, 0, 200, 200, 0, 0);
        bounds(ones(0), 0, 0, 0, 0, 0);
        bounds(ones(0), 1, 0, 200, -1, -1);
    }

    /** 150 SHEETS of 60 are 9,000, the greatest WEIGHT. */
    private static void heaviest() {
        LinenPool pool = new LinenPool();
        pool.sort(60, 0, 1, 1, 1);
        pool.house(0, 0, 0, 0);
        for (int i = 0; i < 150; i++) {
            pool.sheet(0, 0);
            pool.move(i, 0, 10);
        }
        bounds(pool, 9000, 0, 0, 150, 150);
        bounds(pool, 8999, 0, 0, -1, -1);
        bounds(pool, 9000, 0, 200, 50, 150);
        bounds(pool, 9000, 200, 200, 50, 50);
        bounds(pool, 9000, 1, 200, 50, 148);
        CHECK.due("9,001", pool.load(0, 9001, 0, 200, -1), -2);
        CHECK.due("the most that wraps", pool.load(0, Integer.MAX_VALUE, 0, 200, -1), -2);
        CHECK.due("the least that wraps", pool.load(0, Integer.MIN_VALUE, 0, 200, -1), -2);
        CHECK.due("42,949,673, which times 100 wraps to 4", pool.load(0, 42_949_673, 0, 0, -1), -2);
    }

    /** "of each SORT as many as are at the HOUSE NOW or fewer" */
    private static void asManyAsAreThere() {
        LinenPool pool = ones(3);
        pool.house(0, 1, 1, 1);
        bounds(pool, 3, 0, 0, 3, 3);
        bounds(pool, 4, 0, 0, -1, -1);
        bounds(pool, 4, 0, 200, 2, 3);
        pool.day(5);
        pool.move(0, 5, 1);
        bounds(pool, 3, 0, 0, -1, -1);
        bounds(pool, 3, 0, 200, 1, 2);
        pool.undo(3);
        bounds(pool, 3, 0, 0, 3, 3);
        pool.move(0, 4, 11);
        bounds(pool, 3, 0, 0, -1, -1);
        CHECK.due("one at the other house", pool.load(1, 1, 0, 0, -1), 1);
        CHECK.due("not two", pool.load(1, 2, 0, 0, -1), -1);
    }

    /** "the least (what 2 s) or the greatest (2 s and 1) number of SORT s in any" */
    private static void leastAndGreatest() {
        LinenPool pool = new LinenPool();
        int[] grams = {7, 11, 13};
        int[] there = {5, 4, 3};
        pool.house(0, 0, 0, 0);
        int sheets = 0;
        for (int sort = 0; sort < 3; sort++) {
            pool.sort(grams[sort], 0, 1, 1, 1);
            for (int i = 0; i < there[sort]; i++) {
                pool.sheet(sort, 0);
                pool.move(sheets, 0, 10);
                sheets++;
            }
        }
        for (int weight = 0; weight <= 130; weight++) {
            int[] due = counted(grams, there, weight, 3, 9);
            for (int what = -1; what < (weight % 10 == 0 ? 6 : 0); what++) {
                CHECK.due("load of " + weight + ", what " + what, pool.load(0, weight, 3, 9, what), due[1 + what]);
            }
        }
        for (int weight = 0; weight <= 160; weight += 8) {
            int[] due = counted(grams, there, weight, 0, 150);
            for (int what = -1; what < 6; what++) {
                CHECK.due("much damp, load of " + weight + ", what " + what, pool.load(0, weight, 0, 150, what),
                    due[1 + what]);
            }
        }
    }

    /** Ways, then least and greatest of each of three SORTS, p to q hundredths of damp, one by one. */
    private static int[] counted(int[] grams, int[] there, int weight, int p, int q) {
        int[] due = {0, -1, -1, -1, -1, -1, -1};
        for (int a = 0; a <= there[0]; a++) {
            for (int b = 0; b <= there[1]; b++) {
                for (int c = 0; c <= there[2]; c++) {
                    int dry = a * grams[0] + b * grams[1] + c * grams[2];
                    // dry with p hundredths isn't above the weight, with q hundredths isn't below it
                    if (dry * (100 + p) <= weight * 100 && dry * (100 + q) >= weight * 100) {
                        due[0]++;
                        int[] way = {a, b, c};
                        for (int s = 0; s < 3; s++) {
                            due[1 + 2 * s] = due[1 + 2 * s] == -1 ? way[s] : Math.min(due[1 + 2 * s], way[s]);
                            due[2 + 2 * s] = Math.max(due[2 + 2 * s], way[s]);
                        }
                    }
                }
            }
        }
        due[0] = due[0] == 0 ? -1 : due[0];
        return due;
    }

    /** "1,000,000 at most": ways that were counted apart from the class */
    private static void oneMillionAtMost() {
        CHECK.due("999,999 ways", ways(new int[] {13, 12, 10, 8, 12, 10}, new int[] {2, 5, 1, 3, 6, 1}, 331), 999_999);
        CHECK.due("1,000,000", ways(new int[] {8, 7, 12, 11, 12, 8}, new int[] {7, 3, 9, 6, 9, 9}, 262), 1_000_000);
        CHECK.due("1,000,001", ways(new int[] {8, 8, 7, 14, 10, 9}, new int[] {7, 2, 8, 5, 3, 5}, 211), 1_000_000);
        CHECK.due("26 to the 6, but for a few", ways(new int[] {25, 25, 25, 25, 25, 25},
            new int[] {1, 1, 1, 1, 1, 1}, 150), 1_000_000);
    }

    private static int ways(int[] there, int[] grams, int weight) {
        LinenPool pool = new LinenPool();
        pool.house(0, 0, 0, 0);
        int sheets = 0;
        for (int sort = 0; sort < 6; sort++) {
            pool.sort(grams[sort], 0, 1, 1, 1);
            for (int i = 0; i < there[sort]; i++) {
                pool.sheet(sort, 0);
                pool.move(sheets, 0, 10);
                sheets++;
            }
        }
        return pool.load(0, weight, 0, 200, -1);
    }

    /** "NONE: no way; -2: not as told" */
    private static void noWayAndNotAsTold() {
        LinenPool pool = ones(2);
        for (int what = -1; what <= 1; what++) {
            CHECK.due("no way, what " + what, pool.load(0, 9, 0, 0, what), -1);
            CHECK.due("no house, what " + what, pool.load(1, 9, 0, 0, what), -2);
            CHECK.due("p above q, what " + what, pool.load(0, 9, 1, 0, what), -2);
            CHECK.due("q above 200, what " + what, pool.load(0, 9, 1, 201, what), -2);
            CHECK.due("p below 0, what " + what, pool.load(0, 9, -1, 0, what), -2);
        }
        CHECK.due("no way, but no such sort", pool.load(0, 9, 0, 0, 2), -2);
        CHECK.due("a way, but no such sort", pool.load(0, 2, 0, 0, 2), -2);
        CHECK.due("what below NONE", pool.load(0, 2, 0, 0, -2), -2);
    }

    private static void sortsAsked() {
        LinenPool pool = new LinenPool();
        CHECK.due("no house", pool.load(0, 0, 0, 0, -1), -2);
        pool.house(0, 0, 0, 0);
        CHECK.due("no sorts: the one way of none", pool.load(0, 0, 0, 0, -1), 1);
        CHECK.due("no sort 0", pool.load(0, 0, 0, 0, 0), -2);
        for (int sort = 0; sort < 6; sort++) {
            CHECK.due("no sort " + sort + " yet", pool.load(0, 0, 0, 0, 2 * sort), -2);
            pool.sort(1, 0, 1, 1, 1);
            CHECK.due("least of sort " + sort, pool.load(0, 0, 0, 0, 2 * sort), 0);
            CHECK.due("greatest of sort " + sort, pool.load(0, 0, 0, 0, 2 * sort + 1), 0);
        }
        CHECK.due("no sort 6", pool.load(0, 0, 0, 0, 12), -2);
    }
}
