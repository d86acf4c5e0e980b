/** Puts texts on the tape of a pool and reads what is WRITTEN. */
final class Texts {
    private Texts() {
    }

    /** Feeds a text, blanks behind it up to whole twenties of bytes. */
    static void feed(LinenPool pool, String text) {
        for (int from = 0; from < text.length(); from += 20) {
            int[] numbers = new int[5];
            for (int i = 0; i < 20; i++) {
                int c = from + i < text.length() ? text.charAt(from + i) : ' ';
                numbers[i / 4] = numbers[i / 4] << 8 | c;
            }
            pool.feed(numbers[0], numbers[1], numbers[2], numbers[3], numbers[4]);
        }
    }

    /** Feeds a text and takes it as TERMS. */
    static int take(LinenPool pool, String text) {
        feed(pool, text);
        return pool.terms(text.length());
    }

    static String written(LinenPool pool, int terms) {
        StringBuilder text = new StringBuilder();
        int length = pool.written(terms, LinenPool.NONE);
        for (int i = 0; i < length; i++) {
            text.append((char) pool.written(terms, i));
        }
        return text.toString();
    }
}
