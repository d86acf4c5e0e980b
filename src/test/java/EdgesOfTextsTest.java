import java.util.Random;

/** The sentences of "==== 3." and promises 26 to 30 that name an edge: the tape, TERMS, FAULTS, WRITTEN, results. */
public final class EdgesOfTextsTest {
    private static final Check CHECK = new Check();
    private static final long MOST = 1_000_000_000_000L;
    private static final long NO_VALUE = -2_000_000_000_000L;

    public static void main(String[] args) {
        tapeOf400();
        bytesOfNumbers();
        firstBytesOfTheTape();
        upToEightTerms();
        refusalsInOrder();
        faultOfTheLatest();
        bytesThatBeginNone();
        tokensAsLongAsTheyGo();
        namesOfOneToEightLetters();
        namesToldAhead();
        numbersOfOneToNineDigits();
        opensAtMostTen();
        opensInOneAnother();
        opensThatEnded();
        statementsAtMost24();
        textsOf400Tokens();
        textThatMustGoOn();
        resultsHeld();
        resultsHeldEach();
        quotientsAndRemainders();
        greaterAndLess();
        writtenWhereNeeded();
        writtenBlanks();
        writtenBytes();
        valuesOfNames();
        inForceFromToday();
        CHECK.end();
    }

    private static LinenPool pool() {
        LinenPool pool = new LinenPool();
        pool.sort(10, 0, 5, 20, 100);
        pool.sort(25, 1, 8, 10, 60);
        pool.house(3, 3, 4, 60);
        pool.sheet(0, 0);
        pool.sheet(1, 1);
        return pool;
    }

    private static void fault(String text, int place) {
        LinenPool pool = new LinenPool();
        CHECK.due("terms of '" + text + "'", Texts.take(pool, text), place == -1 ? 0 : -1);
        CHECK.due("fault of '" + text + "'", pool.fault(), place);
        CHECK.due("terms there behind '" + text + "'", pool.count(6), place == -1 ? 1 : 0);
        CHECK.due("the tape is empty behind '" + text + "'", pool.count(9), 0);
    }

    /** "NONE, doing nothing: there would be more than 400" */
    private static void tapeOf400() {
        LinenPool pool = new LinenPool();
        String text = "let a=1;" + " ".repeat(391) + "?";
        for (int i = 0; i < 19; i++) {
            pool.feed(0x20202020, 0x20202020, 0x20202020, 0x20202020, 0x20202020);
        }
        CHECK.due("380", pool.count(9), 380);
        CHECK.due("400", pool.feed(0x20202020, 0x20202020, 0x20202020, 0x20202020, 0x2020203f), 400);
        CHECK.due("420", pool.feed(0x3f3f3f3f, 0, 0, 0, 0), -1);
        CHECK.due("400 still", pool.count(9), 400);
        CHECK.due("401 bytes aren't there", pool.terms(401), -2);
        CHECK.due("the 400th is as it was fed", pool.terms(400), -1);
        CHECK.due("its place", pool.fault(), 399);
        CHECK.due("room again", pool.feed(0, 0, 0, 0, 0), 20);
        pool.terms(0);
        CHECK.due("a text of 400", Texts.take(pool, text), -1);
        CHECK.due("its last byte", pool.fault(), 399);
        Texts.feed(pool, text);
        CHECK.due("but for that", pool.terms(399), 1);
        CHECK.due("without the blanks", Texts.written(pool, 1), "let a=1;");
    }

    /** "of each number the highest first": bytes from 128 on, and numbers below 0 */
    private static void bytesOfNumbers() {
        for (int place = 0; place < 20; place++) {
            LinenPool pool = new LinenPool();
            int[] numbers = {0x20202020, 0x20202020, 0x20202020, 0x20202020, 0x20202020};
            int shift = 24 - 8 * (place % 4);
            numbers[place / 4] = numbers[place / 4] & ~(255 << shift) | (place % 2 == 0 ? 0xe1 : 0x01) << shift;
            pool.feed(numbers[0], numbers[1], numbers[2], numbers[3], numbers[4]);
            CHECK.due("byte " + place + " is none of a token", pool.terms(20), -1);
            CHECK.due("its place", pool.fault(), place);
        }
        LinenPool pool = new LinenPool();
        pool.feed(-1, 0x6d697820, 0, 0, 0);
        pool.terms(20);
        CHECK.due("-1 is 255 four times", pool.fault(), 0);
    }

    /** "The first n bytes of the tape (which is empty then)" */
    private static void firstBytesOfTheTape() {
        LinenPool pool = new LinenPool();
        CHECK.due("none of none", pool.terms(0), 0);
        CHECK.due("one of none", pool.terms(1), -2);
        Texts.feed(pool, "mix 0 with 1;mix 2 with 3;");
        CHECK.due("40 are there", pool.count(9), 40);
        CHECK.due("41 aren't", pool.terms(41), -2);
        CHECK.due("-1 aren't", pool.terms(-1), -2);
        CHECK.due("40 are there still", pool.count(9), 40);
        CHECK.due("13 of them", pool.terms(13), 1);
        CHECK.due("the first 13", Texts.written(pool, 1), "mix 0 with 1;");
        CHECK.due("none is left", pool.count(9), 0);
        Texts.feed(pool, "mix 0 with 1;mix 2 with 3;");
        CHECK.due("12 of them", pool.terms(12), -1);
        CHECK.due("more must come", pool.fault(), 12);
        CHECK.due("none is left", pool.count(9), 0);
        Texts.feed(pool, "mix 0 with 12345678;");
        CHECK.due("cut within a number", pool.terms(14), -1);
        CHECK.due("more must come", pool.fault(), 14);
        Texts.feed(pool, "mix 0 with 1;mix 2 with 3;");
        CHECK.due("none of 40", pool.terms(0), 2);
        CHECK.due("none is left", pool.count(9), 0);
        CHECK.due("nothing is written", pool.written(2, -1), 0);
    }

    /** "Taken (up to 8)" */
    private static void upToEightTerms() {
        LinenPool pool = pool();
        for (int i = 0; i < 8; i++) {
            CHECK.due("not yet written", pool.written(i, -1), -1);
            CHECK.due("terms " + i, Texts.take(pool, "let a=" + (i + 5) + ";"), i);
            CHECK.due("in force", pool.value(0, 0), i + 5);
            CHECK.due("a fault takes no place", Texts.take(pool, ";"), i < 7 ? -1 : -3);
            pool.terms(i < 7 ? -1 : 0);
        }
        CHECK.due("a ninth", Texts.take(pool, "let a=99;"), -3);
        CHECK.due("eight are there", pool.count(6), 8);
        CHECK.due("the eighth is in force", pool.value(0, 0), 12);
        CHECK.due("no ninth", pool.written(8, -1), -1);
        for (int i = 0; i < 8; i++) {
            CHECK.due("as it was", Texts.written(pool, i), "let a=" + (i + 5) + ";");
        }
    }

    /** -2 and -3 both "doing nothing"; what holds first of both stands first in the document */
    private static void refusalsInOrder() {
        LinenPool pool = pool();
        Texts.take(pool, "?");
        for (int i = 0; i < 8; i++) {
            Texts.take(pool, "");
        }
        CHECK.due("empty texts have no fault", pool.fault(), -1);
        Texts.feed(pool, "?");
        CHECK.due("8, and n below 0", pool.terms(-1), -2);
        CHECK.due("8, and n above", pool.terms(21), -2);
        CHECK.due("8, and a fault", pool.terms(20), -3);
        CHECK.due("8, and no fault", pool.terms(0), -3);
        CHECK.due("the tape stays", pool.count(9), 20);
        CHECK.due("the fault stays none", pool.fault(), -1);
    }

    /** "The FAULT's place of the latest terms() that was a number or NONE" */
    private static void faultOfTheLatest() {
        LinenPool pool = new LinenPool();
        CHECK.due("none at first", pool.fault(), -1);
        pool.terms(1);
        CHECK.due("none behind -2", pool.fault(), -1);
        Texts.take(pool, "mix ;");
        CHECK.due("4", pool.fault(), 4);
        pool.terms(-5);
        CHECK.due("4 behind -2", pool.fault(), 4);
        Texts.feed(pool, "mix 1;");
        CHECK.due("4 behind a feed", pool.fault(), 4);
        pool.terms(6);
        CHECK.due("5", pool.fault(), 5);
        Texts.take(pool, "mix 1 with 2;");
        CHECK.due("none", pool.fault(), -1);
        Texts.take(pool, "mix 1 with 2");
        CHECK.due("the length", pool.fault(), 12);
    }

    /** "(bytes 32 and 10)", "words of letters a to z", "or byte that begins none" */
    private static void bytesThatBeginNone() {
        for (int c = 0; c < 256; c++) {
            boolean blank = c == 32 || c == 10;
            fault("mix 1 with 2;" + (char) c, blank ? -1 : 13);
            fault((char) c + "mix 1 with 2;", blank ? -1 : 0);
            boolean digit = c >= '0' && c <= '9';
            fault("mix 1" + (char) c + "2 with 3;", blank ? 6 : digit ? -1 : 5);
            boolean letter = c >= 'a' && c <= 'z';
            fault("let n" + (char) c + "m=1;", blank ? 6 : letter ? -1 : c == '=' ? 6 : 5);
            boolean sign = "+-*/%".indexOf(c) >= 0;
            // "1-2", "1+2" and the like; a digit makes it one number, a ";" ends it
            int place = sign || digit ? -1 : blank || c == ';' ? 8 : 7;
            fault("let n=1" + (char) c + "2;", place);
        }
    }

    private static void tokensAsLongAsTheyGo() {
        fault("mix1with2;", -1);
        fault("mixx 1 with 2;", 0);
        fault("mi x 1 with 2;", 0);
        fault("mix 1with2;mix 3 with4;", -1);
        fault("mix 1 withx 2;", 6);
        fault("let a=1;let b=aa;", 14);
        fault("let a=1;let b=a a;", 16);
        fault("let a=1;let b=a1;", 15);
        fault("let a=1 2;", 8);
        fault("let ifx=1;let then=2;", 14);
        fault("let ifx=1;let b=ifx;", -1);
        fault("letifx=1;", 0);
        fault("let a=if 1<2then 3else 4;", -1);
        fault("let a=if1<2then3else4;", -1);
        fault("let a=if 1<2 then3elsex;", 18);
    }

    /** "NAME: 1 to 8 letters" */
    private static void namesOfOneToEightLetters() {
        String letters = "zyxwvutsa";
        for (int length = 1; length <= 9; length++) {
            fault("let " + letters.substring(0, length) + "=1;", length <= 8 ? -1 : 4);
        }
        for (char c = 'a'; c <= 'z'; c++) {
            fault("let " + c + "=1;let z" + c + "a=" + c + ";", -1);
        }
        fault("let =1;", 4);
        fault("let  ;", 5);
        fault("let zzzzzzzz=1;let zzzzzzza=zzzzzzzz;", -1);
        fault("let zzzzzzzz=1;let zzzzzzza=zzzzzzz;", 28);
        fault("let " + "z".repeat(300) + "=1;", 4);
        fault("let a=" + "z".repeat(300) + ";", 6);
        fault("let price=1;", 4);
        fault("let pric=1;let pricee=pric;", -1);
    }

    /** "not told ahead", "a NAME that a "let" ahead told" */
    private static void namesToldAhead() {
        fault("let a=1;let a=2;", 12);
        fault("let a=1;price=2;let b=3;let a=2;", 28);
        fault("price=a;let a=1;", 6);
        fault("let a=a;", 6);
        fault("let b=1;let a=b+a;", 16);
        fault("let b=1;let a=b+b;let c=a*b;", -1);
        LinenPool pool = new LinenPool();
        Texts.take(pool, "let a=1;");
        CHECK.due("a name of other terms isn't told", Texts.take(pool, "price=a;"), -1);
        CHECK.due("its place", pool.fault(), 6);
        CHECK.due("it may be told anew", Texts.take(pool, "let a=2;"), 1);
    }

    /** "NUMBER: 1 to 9 digits" */
    private static void numbersOfOneToNineDigits() {
        String[] texts = {"let a=#;", "price #=1;", "feast # to 1 by 1;", "feast 1 to # by 1;", "mix # with 1;",
            "mix 1 with #;", "heat # for 1;", "heat 1 for #;", "retire=1+#;", "loss pool=-#;", "let a=min(1,#);"};
        for (String text : texts) {
            int place = text.indexOf('#');
            for (int digits = 1; digits <= 11; digits++) {
                fault(text.replace("#", "9".repeat(digits)), digits <= 9 ? -1 : place);
                fault(text.replace("#", "0".repeat(digits)), digits <= 9 ? -1 : place);
            }
            fault(text.replace("#", "1".repeat(300)), place);
        }
        LinenPool pool = pool();
        Texts.take(pool, "let a=999999999;let b=000000000;let c=000000001;let d=2147483647-0;");
        CHECK.due("a tenth digit", pool.fault(), 54);
        Texts.take(pool, "let a=999999999;let b=000000000;let c=000000001;");
        CHECK.due("the greatest", pool.value(0, 0), 999_999_999);
        CHECK.due("0", pool.value(0, 1), 0);
        CHECK.due("1", pool.value(0, 2), 1);
    }

    private static final String[] OF_EX = {"if then", "if else", "if cond", "min", "max", "(", "-"};
    private static final String[] OF_ATOM = {"min", "max", "(", "-"};
    private static final String[] OF_COND = {"not", "[", "sum"};

    /** Builds a text of so many opens in one another, and where the eleventh begins. */
    private static final class Nest {
        private final Random random;
        private final int opens;
        private final StringBuilder text = new StringBuilder("let a=");
        private int open;
        private int eleventh = -1;

        Nest(int seed, int opens) {
            this.random = new Random(seed);
            this.opens = opens;
            ex(OF_EX);
            text.append(';');
        }

        private void begin() {
            open++;
            if (open == 11) {
                eleventh = text.length();
            }
        }

        private void ex(String[] kinds) {
            if (open >= opens) {
                text.append('7');
                return;
            }
            String kind = kinds[random.nextInt(kinds.length)];
            begin();
            switch (kind) {
                case "if then":
                    text.append("if 1<2 then ");
                    ex(OF_EX);
                    text.append(" else 3");
                    break;
                case "if else":
                    text.append("if 1<2 then 3 else ");
                    ex(OF_EX);
                    break;
                case "if cond":
                    text.append("if ");
                    cond();
                    text.append(" then 3 else 4");
                    break;
                case "min":
                    text.append("min(");
                    ex(OF_EX);
                    text.append(",5)");
                    break;
                case "max":
                    text.append("max(5,");
                    ex(OF_EX);
                    text.append(")");
                    break;
                case "(":
                    text.append("(");
                    ex(OF_EX);
                    text.append(")");
                    break;
                default:
                    text.append("-");
                    ex(OF_ATOM);
                    break;
            }
        }

        private void cond() {
            String kind = open >= opens ? "sum" : OF_COND[random.nextInt(OF_COND.length)];
            switch (kind) {
                case "not":
                    begin();
                    text.append("not ");
                    cond();
                    break;
                case "[":
                    begin();
                    text.append("[1<2 or 2<3 and ");
                    cond();
                    text.append("]");
                    break;
                default:
                    text.append("1+2*");
                    ex(OF_ATOM);
                    text.append(">3");
                    break;
            }
        }
    }

    /** "at most 10 are open in one another", "the eleventh open": of all kinds in all orders */
    private static void opensAtMostTen() {
        int cut = 0;
        for (int seed = 0; seed < 400; seed++) {
            for (int opens = 9; opens <= 12; opens++) {
                Nest nest = new Nest(seed, opens);
                if (nest.text.length() > 400) {
                    cut++;
                } else {
                    fault(nest.text.toString(), nest.eleventh);
                }
            }
        }
        CHECK.due("few texts are too long", cut < 40, true);
    }

    /** Each kind as the tenth and as the eleventh. */
    private static void opensInOneAnother() {
        String[] heads = {"(", "-", "min(", "max(", "if 1<2 then ", "if 1<2 then 3 else "};
        String[] tails = {")", "", ")", ")", " else 3", ""};
        String nine = "let a=" + "(".repeat(9);
        for (int i = 0; i < heads.length; i++) {
            String one = nine + heads[i] + "1" + tails[i] + ")".repeat(9) + ";";
            fault(one, -1);
            for (int j = 0; j < heads.length; j++) {
                if (!(heads[i].equals("-") && heads[j].startsWith("if"))) {
                    String two = nine + heads[i] + heads[j] + "1" + tails[j] + tails[i] + ")".repeat(9) + ";";
                    fault(two, 15 + heads[i].length());
                }
            }
        }
        String eight = "let a=" + "(".repeat(8) + "if ";
        String end = " then 1 else 2" + ")".repeat(8) + ";";
        fault(eight + "not 1<2" + end, -1);
        fault(eight + "[1<2]" + end, -1);
        fault(eight + "(1)<2" + end, -1);
        fault(eight + "1<-2" + end, -1);
        fault(eight + "not not 1<2" + end, 21);
        fault(eight + "not [1<2]" + end, 21);
        fault(eight + "[not 1<2]" + end, 18);
        fault(eight + "[[1<2]]" + end, 18);
        fault(eight + "not -1<2" + end, 21);
        fault(eight + "[(1)<2]" + end, 18);
        fault(eight + "1<min(-2)" + end, 23);
    }

    /** What ended is no longer open: "if" (till its last EX ends), "min" with its "(", "-" with its ATOM. */
    private static void opensThatEnded() {
        String in = "let a=" + "(".repeat(9);
        String out = ")".repeat(9) + ";";
        fault(in + "(1)+(2)*-3-min(4)+max(5,6)" + out, -1);
        fault(in + "-1*-2/-3%-4+-5--6" + out, -1);
        fault(in + "-1--(2)" + out, 19);
        fault(in + "min(1,2)+min(3,(4))" + out, 30);
        fault("let a=" + "(".repeat(8) + "(if 1<2 then 3 else 4)+(if 1<2 then 3 else 4)" + ")".repeat(8) + ";", -1);
        fault("let a=" + "(".repeat(8) + "(if 1<2 then 3 else 4)+(if (1)<2 then 3 else 4)" + ")".repeat(8) + ";", 41);
        fault("let a=" + "(".repeat(8) + "if not 1<2 and [1<2] or not 2<1 then -3 else (4)" + ")".repeat(8) + ";", -1);
        // the "if" is open in its last EX too
        fault("let a=" + "(".repeat(8) + "if 1<2 then 3 else (-4)" + ")".repeat(8) + ";", 34);
        fault("let a=" + "(".repeat(10) + "1" + ")".repeat(10) + ";let b=" + "(".repeat(10) + "1" + ")".repeat(10) + ";",
            -1);
        fault("let a=" + "(".repeat(10) + "1" + ")".repeat(10) + "+" + "(".repeat(10) + "1" + ")".repeat(10) + ";", -1);
        fault("feast 1 to 2 by " + "(".repeat(11), 26);
        fault("price=" + "-".repeat(10) + "1;loss pool=" + "-".repeat(11) + "1;", 38);
    }

    /** "At most 24 statements", "the 25th statement's first" */
    private static void statementsAtMost24() {
        String[] ones = {"let n=1;", "price=1;", "loss pool=1;", "retire=1;", "mix 1 with 2;", "heat 1 for 2;"};
        for (String one : ones) {
            int each = one.length();
            for (int n = 22; n <= 26; n++) {
                StringBuilder text = new StringBuilder();
                for (int i = 0; i < n; i++) {
                    text.append(one.replace('n', (char) ('a' + i)));
                }
                fault(text.toString(), n <= 24 ? -1 : 24 * each);
            }
        }
        String most = "price=1;".repeat(24);
        fault(most + " \n ", -1);
        fault(most + " \n let", 195);
        fault(most + "zz", 192);
        fault(most + ";", 192);
        fault(most + "\t", 192);
        fault(most + "1234567890", 192);
        fault("price=1;".repeat(23) + "price=1", 191);
        fault("price=1;".repeat(23) + "price=;", 190);
    }

    /** A token takes a byte at least: 400 bytes have 400 tokens at most. */
    private static void textsOf400Tokens() {
        fault(";".repeat(400), 0);
        fault("1a".repeat(200), 0);
        fault("let a=" + "1+".repeat(197), 400);
        fault("let a=" + "1+".repeat(196) + "1;", -1);
        fault("let a=" + "1+".repeat(196) + "1" + "+", 400);
        fault("retire=" + "1*".repeat(195) + "12;", -1);
        fault("price=max(" + "1,".repeat(194) + "1" + ")", 400);
        fault("price=max(" + "1,".repeat(193) + "1" + ");", -1);
        fault("let a=if " + "1<2or ".repeat(60) + "1<2then 3else 4;", -1);
        fault("let a=if " + "1<2and ".repeat(50) + "1<2then 3else 4;", -1);
        fault(" ".repeat(400), -1);
        fault("a".repeat(400), 0);
        fault("1".repeat(400), 0);
        fault("let a=" + "1".repeat(394), 6);
        fault("let " + "a".repeat(396), 4);
    }

    /** "the text's length, if more must come": behind each token of each statement */
    private static void textThatMustGoOn() {
        String[] texts = {"let abc = 12 ;", "price = 1 ;", "price 3 = 1 ;", "loss works = 2 ;", "retire = 3 ;",
            "feast 1 to 2 by 3 ;", "mix 1 with 2 ;", "heat 1 for 2 ;",
            "let a = if 1 < 2 or 3 > 4 and not [ 5 = 6 ] then 7 else 8 ;", "let a = min ( 1 , - ( 2 + 3 ) ) * 4 ;"};
        for (String text : texts) {
            fault(text, -1);
            for (int i = 1; i < text.length() - 1; i++) {
                if (text.charAt(i) == ' ') {
                    fault(text.substring(0, i), i);
                    fault(text.substring(0, i + 1), i + 1);
                }
            }
        }
    }

    private static void value(String ex, long due) {
        LinenPool pool = pool();
        Texts.take(pool, "let m=1000000*1000000;let n=-m;let a=" + ex + ";");
        CHECK.due("value of " + ex, pool.value(0, 2), due);
    }

    /** "Each result is held to from -10^12 to 10^12" */
    private static void resultsHeld() {
        value("m", MOST);
        value("n", -MOST);
        value("m-1", MOST - 1);
        value("m+0", MOST);
        value("m+1", MOST);
        value("m+m", MOST);
        value("n+1", 1 - MOST);
        value("n-0", -MOST);
        value("n-1", -MOST);
        value("n+n", -MOST);
        value("n-m", -MOST);
        value("m-n", MOST);
        value("-m", -MOST);
        value("-n", MOST);
        value("m*1", MOST);
        value("m*-1", -MOST);
        value("m*2", MOST);
        value("m*m", MOST);
        value("n*n", MOST);
        value("m*n", -MOST);
        value("n*m", -MOST);
        value("m*0", 0);
        value("0*n", 0);
        value("1000000*1000000", MOST);
        value("1000000*1000001", MOST);
        value("1000000*-1000001", -MOST);
        value("-1000000*1000001", -MOST);
        value("-1000000*-1000001", MOST);
        value("999999*1000001", 999_999_999_999L);
        value("-999999*1000001", -999_999_999_999L);
        value("(m-1)*1", MOST - 1);
        value("(m-1)+1", MOST);
        value("(m-1)+2", MOST);
        value("500000000*2000", MOST);
        value("500000000*2001", MOST);
        value("500000000*1999", 999_500_000_000L);
        // products that wrap around in 64 bits, to either sign
        value("m*9223373", MOST);
        value("m*18446744", MOST);
        value("m*18446745", MOST);
        value("n*18446745", -MOST);
        value("m*999999999", MOST);
        value("n*999999999", -MOST);
        value("m/1", MOST);
        value("m/-1", -MOST);
        value("n/-1", MOST);
        value("n%-1", 0);
        value("min(m+1,m)", MOST);
        value("max(n-1,n)", -MOST);
    }

    /** Each result is, not the last alone. */
    private static void resultsHeldEach() {
        value("m+1-1", MOST - 1);
        value("m+m-m", 0);
        value("n-1+1", 1 - MOST);
        value("m*2/2", MOST / 2);
        value("m*m/m", 1);
        value("m*m/m/m", 0);
        value("-(m+m)", -MOST);
        value("(m+1)-(m+2)", 0);
        value("m+(0-1)", MOST - 1);
        value("if m+1=m then 1 else 0", 1);
        value("if n-1<n then 1 else 0", 0);
        value("m+1+1-1-1", MOST - 2);
        value("999999999*999999999%7", MOST % 7);
    }

    /** "/ towards 0, % with the first one's sign, both 0 by 0" */
    private static void quotientsAndRemainders() {
        for (int a = -7; a <= 7; a++) {
            for (int b = -4; b <= 4; b++) {
                int quotient = 0;
                while (b != 0 && (quotient + 1) * Math.abs(b) <= Math.abs(a)) {
                    quotient++;
                }
                int rest = b == 0 ? 0 : Math.abs(a) - quotient * Math.abs(b);
                String one = a < 0 ? "-" + -a : "" + a;
                String other = b < 0 ? "-" + -b : "" + b;
                value(one + "/" + other, (a < 0) == (b < 0) ? quotient : -quotient);
                value(one + "%" + other, a < 0 ? -rest : rest);
                value(one + "*" + other, a * b);
                value(one + "+" + other, a + b);
                value(one + "-" + other, a - b);
            }
        }
        value("m/0", 0);
        value("n%0", 0);
        value("5/(1-1)", 0);
        value("5%(1-1)+1", 1);
        value("0/5", 0);
        value("0%5", 0);
        value("n/m", -1);
        value("n%m", 0);
        value("n%(m-1)", -1);
        value("(m-1)%m", MOST - 1);
    }

    private static void greaterAndLess() {
        String[][] conds = {{"4<5", "1"}, {"5<5", "0"}, {"6<5", "0"}, {"4>5", "0"}, {"5>5", "0"}, {"6>5", "1"},
            {"4=5", "0"}, {"5=5", "1"}, {"6=5", "0"}, {"-1<0", "1"}, {"0<-1", "0"}, {"n<m", "1"}, {"m=m+1", "1"}};
        for (String[] cond : conds) {
            value("if " + cond[0] + " then 1 else 0", Long.parseLong(cond[1]));
            value("if not " + cond[0] + " then 1 else 0", 1 - Long.parseLong(cond[1]));
        }
        for (int bits = 0; bits < 8; bits++) {
            boolean a = (bits & 1) != 0;
            boolean b = (bits & 2) != 0;
            boolean c = (bits & 4) != 0;
            String one = a ? "1=1" : "1=2";
            String two = b ? "1=1" : "1=2";
            String three = c ? "1=1" : "1=2";
            value("if " + one + " or " + two + " and " + three + " then 1 else 0", a || b && c ? 1 : 0);
            value("if " + one + " and " + two + " or " + three + " then 1 else 0", a && b || c ? 1 : 0);
            value("if not " + one + " and " + two + " then 1 else 0", !a && b ? 1 : 0);
            value("if not [" + one + " and " + two + "] or " + three + " then 1 else 0", !(a && b) || c ? 1 : 0);
            value("if [" + one + " or " + two + "] and " + three + " then 1 else 0", (a || b) && c ? 1 : 0);
        }
    }

    private static void written(String text, String due) {
        LinenPool pool = new LinenPool();
        CHECK.due("terms of '" + text + "'", Texts.take(pool, text), 0);
        CHECK.due("written of '" + text + "'", Texts.written(pool, 0), due);
        CHECK.due("terms of '" + due + "'", Texts.take(pool, due), 1);
        CHECK.due("written of '" + due + "'", Texts.written(pool, 1), due);
    }

    /** "(" and ")" around an EX, "[" and "]" around a COND "where it's needed alone": each part in each place */
    private static void writtenWhereNeeded() {
        String[] parts = {"if 1<2 then 3 else 4", "5+6", "5-6", "5*6", "5/6", "5%6", "-7", "8", "day", "min(9,1)"};
        // for "if", SUM, PROD, and all else: whether it's needed there
        String[][] places = {{"#", "0000"}, {"#+1", "1000"}, {"#-1", "1000"}, {"1+#", "1100"}, {"1-#", "1100"},
            {"#*2", "1100"}, {"#/2", "1100"}, {"#%2", "1100"}, {"2*#", "1110"}, {"2/#", "1110"}, {"2%#", "1110"},
            {"-#", "1110"}, {"max(#)", "0000"}, {"max(1,#)", "0000"}, {"max(#,1)", "0000"},
            {"if#<1 then 2 else 3", "1000"}, {"if 1>#then 2 else 3", "1000"}, {"if 1=#then 2 else 3", "1000"},
            {"if 1<2 then#else 3", "0000"}, {"if 1<2 then 3 else#", "0000"}, {"1+2*#", "1110"}, {"1-2+#", "1100"}};
        for (String[] place : places) {
            for (int i = 0; i < parts.length; i++) {
                int kind = i == 0 ? 0 : i <= 2 ? 1 : i <= 5 ? 2 : 3;
                boolean needed = place[1].charAt(kind) == '1';
                String apart = place[0].replace("#", "(" + parts[i] + ")");
                String due = needed ? apart : joined(place[0], parts[i]);
                written("retire=" + apart + ";", "retire=" + due + ";");
                written("retire=" + place[0].replace("#", "(((" + parts[i] + ")))") + ";", "retire=" + due + ";");
            }
        }
        String[] conds = {"1<2 or 2<3", "1<2 and 2<3", "not 1<2", "1<2"};
        String[][] wholes = {{"if#then 1 else 2", "0000"}, {"if#or 5<6 then 1 else 2", "0000"},
            {"if 5<6 or#then 1 else 2", "0000"}, {"if#and 5<6 then 1 else 2", "1000"},
            {"if 5<6 and#then 1 else 2", "1000"}, {"if not#then 1 else 2", "1100"},
            {"if not not#then 1 else 2", "1100"}, {"if 5<6 or 7<8 and#then 1 else 2", "1000"}};
        for (String[] whole : wholes) {
            for (int i = 0; i < conds.length; i++) {
                String apart = whole[0].replace("#", "[" + conds[i] + "]");
                String due = whole[1].charAt(i) == '1' ? apart : joined(whole[0], conds[i]);
                written("price=" + apart + ";", "price=" + due + ";");
                written("price=" + whole[0].replace("#", "[[" + conds[i] + "]]") + ";", "price=" + due + ";");
            }
        }
    }

    /** A part in its place, with a blank where two words or digits meet. */
    private static String joined(String place, String part) {
        int at = place.indexOf('#');
        String ahead = place.substring(0, at);
        String behind = place.substring(at + 1);
        StringBuilder text = new StringBuilder(ahead);
        if (at > 0 && Character.isLetterOrDigit(ahead.charAt(at - 1)) && Character.isLetterOrDigit(part.charAt(0))) {
            text.append(' ');
        }
        text.append(part);
        char last = part.charAt(part.length() - 1);
        if (!behind.isEmpty() && Character.isLetterOrDigit(last) && Character.isLetterOrDigit(behind.charAt(0))) {
            text.append(' ');
        }
        return text.append(behind).toString();
    }

    /** "NUMBERS without zeros ahead", "one blank between two that are words or digits, none else" */
    private static void writtenBlanks() {
        written("mix0with00;heat010for000000200;", "mix 0 with 0;heat 10 for 200;");
        written("price 000000000 = 000000001 ;price\n\n=0;", "price 0=1;price=0;");
        written("feast 0 to 1000 by(0);feast 1 to 2 by\n- 3;", "feast 0 to 1000 by 0;feast 1 to 2 by-3;");
        written("loss\nhouse\n=\n0\n;loss works=1;loss pool=2;", "loss house=0;loss works=1;loss pool=2;");
        written("let z = 1 ; let a = z ;", "let z=1;let a=z;");
        written("let z=1;let y=z+1;", "let z=1;let y=z+1;");
        written("retire = min ( 1 , max ( 2 ) ) ;", "retire=min(1,max(2));");
        written("retire=if min(1)<max(2)then min(3)else-4;", "retire=if min(1)<max(2)then min(3)else-4;");
        written("retire=if not[1<2 or 2<3]then(1)else(2);", "retire=if not[1<2 or 2<3]then 1 else 2;");
        written("retire=if[1<2 or 2<3]and[1<2]then 1 else 2;", "retire=if[1<2 or 2<3]and 1<2 then 1 else 2;");
        written("", "");
    }

    private static void writtenBytes() {
        LinenPool pool = new LinenPool();
        CHECK.due("none is there", pool.written(0, -1), -1);
        Texts.take(pool, "price = 7 ;");
        String due = "price=7;";
        CHECK.due("how many", pool.written(0, -1), due.length());
        for (int i = 0; i < due.length(); i++) {
            CHECK.due("byte " + i, pool.written(0, i), due.charAt(i));
        }
        int[] none = {-2, due.length(), Integer.MIN_VALUE, Integer.MAX_VALUE};
        for (int i : none) {
            CHECK.due("byte " + i, pool.written(0, i), -1);
        }
        CHECK.due("no second", pool.written(1, -1), -1);
        Texts.take(pool, "");
        CHECK.due("empty", pool.written(1, -1), 0);
        CHECK.due("no byte of it", pool.written(1, 0), -1);
        // blanks come in where there were none: more bytes than were fed
        Texts.take(pool, "mix1with2;".repeat(24));
        CHECK.due("24 of 13", pool.written(2, -1), 312);
        CHECK.due("the last", pool.written(2, 311), ';');
    }

    /** "What the k-th NAME of TERMS in force TODAY is": 24 of them at most */
    private static void valuesOfNames() {
        LinenPool pool = pool();
        CHECK.due("no terms", pool.value(0, 0), NO_VALUE);
        StringBuilder text = new StringBuilder();
        for (int i = 0; i < 24; i++) {
            text.append("let ").append((char) ('a' + i)).append('=').append(i == 0 ? "1" : "2*" + (char) ('a' + i - 1));
            text.append(';');
        }
        Texts.take(pool, text.toString());
        for (int k = 0; k < 24; k++) {
            CHECK.due("name " + k, pool.value(1, k), 1 << k);
        }
        CHECK.due("no 25th", pool.value(1, 24), NO_VALUE);
        CHECK.due("none below 0", pool.value(1, -1), NO_VALUE);
        CHECK.due("no sheet 2", pool.value(2, 0), NO_VALUE);
        CHECK.due("no sheet -1", pool.value(-1, 0), NO_VALUE);
        Texts.take(pool, "price=1;mix 1 with 2;let b=5;retire=2;let c=b-6;");
        CHECK.due("names are counted, not statements", pool.value(0, 0), 5);
        CHECK.due("the second", pool.value(0, 1), -1);
        CHECK.due("no third", pool.value(0, 2), NO_VALUE);
        Texts.take(pool, "let z=5;");
        CHECK.due("other terms, fewer names", pool.value(0, 1), NO_VALUE);
    }

    /** "they're in force from TODAY on; on a DAY those taken last by then" */
    private static void inForceFromToday() {
        LinenPool pool = pool();
        for (int day = 0; day < 7; day++) {
            pool.want(0, 0, day, 10);
        }
        pool.day(3);
        Texts.take(pool, "feast 0 to 9999 by 200;");
        pool.day(5);
        Texts.take(pool, "feast 0 to 9999 by 300;");
        Texts.take(pool, "feast 0 to 9999 by 400;");
        int[] due = {10, 10, 10, 20, 20, 40, 40, 40};
        for (int day = 0; day < due.length; day++) {
            CHECK.due("wanted on " + day, pool.wanted(0, day), due[day]);
        }
        CHECK.due("on 1,010", pool.wanted(0, 1010), 40);
        Texts.take(pool, "feast 0 to 9999 by ;");
        CHECK.due("a fault changes nothing", pool.wanted(0, 5), 40);
        Texts.take(pool, "");
        CHECK.due("none of these", pool.wanted(0, 5), 10);
        CHECK.due("ahead as ever", pool.wanted(0, 4), 20);
    }
}
