import java.lang.management.ManagementFactory;

/** What runs of the dearest calls make: fewer bytes than a run may make elements, and no more than objects. */
public final class RoomTest {
    /** An object takes 16 bytes at least and an element one: below both 600,000 objects and 7.3 million elements. */
    private static final long MOST_BYTES = 7_000_000;

    private static long bytes() {
        return ((com.sun.management.ThreadMXBean) ManagementFactory.getThreadMXBean()).getCurrentThreadAllocatedBytes();
    }

    private static void setUp(LinenPool pool) {
        for (int i = 0; i < 6; i++) {
            pool.sort(1 + i, i % 4, 9, 9, 1000);
        }
        for (int i = 0; i < 8; i++) {
            pool.house(1, 11 * i, 99 - 12 * i, 100);
        }
        for (int i = 0; i < 60; i++) {
            pool.sheet(i % 6, 0);
        }
        for (int i = 0; i < 3; i++) {
            pool.washer(1 + i, 7 * i + 1, 9);
        }
        for (int i = 0; i < 7; i++) {
            pool.job(i % 6, 20 + 9 * i, 90 * i);
        }
    }

    private static String longText() {
        StringBuilder text = new StringBuilder("price=1");
        while (text.length() < 398) {
            text.append("+a".charAt(0)).append(text.length() % 10);
        }
        return text.append(';').toString();
    }

    public static void main(String[] args) {
        Check check = new Check();
        String text = longText();
        LinenPool warm = new LinenPool();
        Texts.take(warm, text);
        warm.written(0, 0);
        long before = bytes();
        LinenPool pool = new LinenPool();
        setUp(pool);
        for (int i = 0; i < 20; i++) {
            Texts.feed(pool, text);
            int taken = pool.terms(i < 7 ? text.length() : text.length() - 1);
            check.due("terms " + i, taken, i < 7 ? i : -1);
        }
        for (int i = 0; i < 50; i++) {
            pool.night(i % 2);
            pool.round(255, i, 0);
            pool.buy(i % 6, 10, 0);
            pool.load(0, 9000, 0, 200, -1);
            pool.bill(0, 0, 1000, 1000);
            pool.part(0, 0, 1000, 1000);
        }
        long made = bytes() - before;
        System.out.println("a run of the dearest calls made " + made + " bytes");
        check.due("bytes made are few: " + made, made < MOST_BYTES, true);

        before = bytes();
        for (int i = 0; i < 500; i++) {
            pool.night(i % 2);
            pool.round(255, i, 0);
            pool.buy(i % 6, 10, 0);
            pool.load(0, 9000, 0, 200, i % 12);
            pool.price(0, 0);
            pool.wanted(0, 3);
        }
        made = bytes() - before;
        check.due("asking makes nothing: " + made, made < 20_000, true);
        check.end();
    }
}
