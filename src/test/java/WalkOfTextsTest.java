import java.io.IOException;

/** "==== 3." of the document: each sentence in its order, and calls that would tell if it were broken. */
public final class WalkOfTextsTest {
    private static final Check CHECK = new Check();
    private static final long NO_VALUE = -2_000_000_000_000L;
    private static Document doc;

    public static void main(String[] args) throws IOException {
        doc = new Document(CHECK, "==== 3. TERMS", "==== 4. PRICE");
        statements();
        statementsOfNumbers();
        expressions();
        conditions();
        words();
        namesAndNumbers();
        tokens();
        opens();
        statementsUpTo24();
        faults();
        faultsByKind();
        results();
        names();
        inForce();
        written();
        parens();
        brackets();
        whatHolds();
        doc.end();
        CHECK.end();
    }

    private static void due(String call, long got, long want) {
        CHECK.due(call, got, want);
    }

    private static void takes(String text, String written) {
        LinenPool pool = new LinenPool();
        due("terms of '" + text + "'", Texts.take(pool, text), 0);
        due("fault of '" + text + "'", pool.fault(), -1);
        CHECK.due("'" + text + "' written", Texts.written(pool, 0), written);
    }

    private static void refuses(String text, int fault) {
        LinenPool pool = new LinenPool();
        due("terms of '" + text + "'", Texts.take(pool, text), -1);
        due("fault of '" + text + "'", pool.fault(), fault);
        due("terms behind '" + text + "'", pool.count(6), 0);
    }

    /**
     * A statement of these tokens is taken; cut off behind each it must go on; a byte that begins no token is a
     * FAULT in the place of each.
     */
    private static void hasTokens(String written, String... tokens) {
        takes(String.join(" ", tokens), written);
        StringBuilder ahead = new StringBuilder();
        for (String token : tokens) {
            refuses(ahead + "?", ahead.length());
            if (ahead.length() > 0) {
                refuses(ahead.toString(), ahead.length());
            }
            ahead.append(token).append(' ');
        }
        refuses(ahead + "?", ahead.length());
    }

    /** What an EX is for a SHEET of LIFE 20, WORTH 100, GRAMS 10, SORT 0 in STOCK on DAY 0. */
    private static void is(String ex, long want) {
        LinenPool pool = new LinenPool();
        pool.sort(10, 0, 5, 20, 100);
        pool.sheet(0, 0);
        Texts.take(pool, "let x=" + ex + ";");
        due(ex, pool.value(0, 0), want);
    }

    private static void holds(String cond, boolean want) {
        is("if " + cond + " then 1 else 0", want ? 1 : 0);
    }

    private static void statements() {
        doc.says("==== 3. TERMS are a text: {");
        takes("", "");
        takes(" \n ", "");
        takes("retire=1;", "retire=1;");
        takes("retire=1;retire=2;let a=3;", "retire=1;retire=2;let a=3;");
        refuses("retire=1;;", 9);
        refuses(";", 0);
        refuses("1", 0);

        doc.says("\"let\" NAME \"=\" EX \";\" |");
        hasTokens("let a=1;", "let", "a", "=", "1", ";");

        doc.says("\"price\" [NUMBER] \"=\" EX \";\" |");
        hasTokens("price=1;", "price", "=", "1", ";");
        hasTokens("price 3=1;", "price", "3", "=", "1", ";");
        refuses("price 3 4=1;", 8);
        refuses("price a=1;", 6);

        doc.says("\"loss\" (\"house\" | \"works\" | \"pool\") \"=\" EX \";\" |");
        hasTokens("loss house=1;", "loss", "house", "=", "1", ";");
        hasTokens("loss works=1;", "loss", "works", "=", "1", ";");
        hasTokens("loss pool=1;", "loss", "pool", "=", "1", ";");
        refuses("loss=1;", 4);
        refuses("loss kind=1;", 5);
        refuses("loss house works=1;", 11);

        doc.says("\"retire\" \"=\" EX \";\" |");
        hasTokens("retire=1;", "retire", "=", "1", ";");
        refuses("retire 1=1;", 7);
    }

    private static void statementsOfNumbers() {
        doc.says("\"feast\" NUMBER \"to\" NUMBER \"by\" EX \";\" |");
        hasTokens("feast 1 to 2 by 3;", "feast", "1", "to", "2", "by", "3", ";");
        refuses("feast 1+1 to 2 by 3;", 7);
        refuses("feast -1 to 2 by 3;", 6);
        takes("feast 2 to 1 by 3-4;", "feast 2 to 1 by 3-4;");

        doc.says("\"mix\" NUMBER \"with\" NUMBER \";\" |");
        hasTokens("mix 1 with 2;", "mix", "1", "with", "2", ";");
        refuses("mix 1 with 2=3;", 12);
        refuses("mix (1) with 2;", 4);

        doc.says("\"heat\" NUMBER \"for\" NUMBER \";\"}.");
        hasTokens("heat 1 for 2;", "heat", "1", "for", "2", ";");
        refuses("heat 1 for life;", 11);
        refuses("heat 1 to 2;", 7);
    }

    private static void expressions() {
        doc.says("EX: \"if\" COND \"then\" EX \"else\" EX | SUM.");
        hasTokens("retire=if 1<2 then 3 else 4;", "retire", "=", "if", "1", "<", "2", "then", "3", "else", "4", ";");
        is("if 1<2 then 3 else 4", 3);
        is("if 2<1 then 3 else 4", 4);
        is("if 2<1 then 3 else if 1<2 then 4 else 5", 4);
        is("if 1<2 then if 2<1 then 3 else 4 else 5", 4);
        is("if 2<1 then 3 else 4+5", 9);
        refuses("retire=1+if 1<2 then 3 else 4;", 9);
        refuses("retire=if 1 then 3 else 4;", 12);

        doc.says("SUM: PROD {(\"+\" | \"-\") PROD}.");
        hasTokens("retire=1+2-3;", "retire", "=", "1", "+", "2", "-", "3", ";");
        is("7-2-1", 4);
        is("7-2+1", 6);
        is("2+3*4", 14);
        is("2*3+4", 10);
        refuses("retire=1++2;", 9);

        doc.says("PROD: ATOM {(\"*\" | \"/\" | \"%\") ATOM}.");
        hasTokens("retire=1*2/3%4;", "retire", "=", "1", "*", "2", "/", "3", "%", "4", ";");
        is("2*3*4", 24);
        is("24/3/2", 4);
        is("24/3*2", 16);
        is("17%10%4", 3);
        is("7*10%4", 2);
        refuses("retire=1**2;", 9);

        doc.says("ATOM: NUMBER | WORD | (\"min\" | \"max\") \"(\" EX {\",\" EX} \")\" | \"(\" EX \")\" | \"-\""
            + " ATOM.");
        hasTokens("retire=life;", "retire", "=", "life", ";");
        hasTokens("retire=min(1,2,3);", "retire", "=", "min", "(", "1", ",", "2", ",", "3", ")", ";");
        hasTokens("retire=max(1);", "retire", "=", "max", "(", "1", ")", ";");
        hasTokens("retire=1;", "retire", "=", "(", "1", ")", ";");
        hasTokens("retire=--1;", "retire", "=", "-", "-", "1", ";");
        is("min(3,1,2)", 1);
        is("max(3,1,2)", 3);
        is("min(5)", 5);
        is("2*(3+4)", 14);
        is("-7", -7);
        is("--7", 7);
        is("5--7", 12);
        is("-2*3", -6);
        is("-2+3", 1);
        is("min(if 1<2 then 3 else 4,9)", 3);
        is("(if 1<2 then 3 else 4)+1", 4);
        refuses("retire=min();", 11);
        refuses("retire=();", 8);
        refuses("retire=min 1;", 11);
        refuses("retire=max(1,);", 13);
        refuses("retire=+1;", 7);
    }

    private static void conditions() {
        doc.says("COND: ALL {\"or\" ALL}.");
        hasTokens("retire=if 1=1 or 2=2 then 3 else 4;",
            "retire", "=", "if", "1", "=", "1", "or", "2", "=", "2", "then", "3", "else", "4", ";");
        holds("1=2 or 1=2 or 1=1", true);
        holds("1=2 or 1=2", false);
        holds("1=1 or 1=1 and 1=2", true);

        doc.says("ALL: TEST {\"and\" TEST}.");
        hasTokens("retire=if 1=1 and 2=2 then 3 else 4;",
            "retire", "=", "if", "1", "=", "1", "and", "2", "=", "2", "then", "3", "else", "4", ";");
        holds("1=1 and 1=1 and 1=1", true);
        holds("1=1 and 1=2 and 1=1", false);
        holds("1=2 and 1=1 or 1=1", true);

        doc.says("TEST: \"not\" TEST | \"[\" COND \"]\" | SUM (\"<\" | \">\" | \"=\") SUM.");
        hasTokens("retire=if not 1=1 then 3 else 4;",
            "retire", "=", "if", "not", "1", "=", "1", "then", "3", "else", "4", ";");
        hasTokens("retire=if 1=1 then 3 else 4;",
            "retire", "=", "if", "[", "1", "=", "1", "]", "then", "3", "else", "4", ";");
        holds("not 1=2", true);
        holds("not not 1=2", false);
        holds("not 1=2 and 1=2", false);
        holds("not [1=2 and 1=2]", true);
        holds("[1=1 or 1=1] and 1=2", false);
        holds("1+1<3", true);
        holds("3<3", false);
        holds("3>2", true);
        holds("3>3", false);
        holds("2*2=5-1", true);
        holds("-1<0", true);
        holds("(if 1=1 then 2 else 3)=2", true);
        refuses("retire=if 1<2<3 then 4 else 5;", 13);
        refuses("retire=if [1 then 2 else 3;", 13);
        refuses("retire=if (1=1) then 2 else 3;", 12);
        refuses("retire=if if 1=1 then 2 else 3=2 then 4 else 5;", 10);
        refuses("retire=[1=1];", 7);
    }

    private static void words() {
        doc.says("```text WORD: washes, age, life, worth, grams, sort, kind, days, misses, day,");
        String[] words = {"washes", "age", "life", "worth", "grams", "sort", "kind", "days", "misses", "day"};
        // a SHEET of SORT 1 that came on 2, washed once, since 9 at a HOUSE of kind 3, missed once by 12
        long[] are = {1, 10, 30, 400, 50, 1, 3, 3, 1, 12};
        LinenPool pool = new LinenPool();
        pool.sort(10, 0, 5, 20, 100);
        pool.sort(50, 0, 5, 30, 400);
        pool.house(3, 0, 0, 0);
        pool.day(2);
        pool.sheet(1, 0);
        pool.day(12);
        pool.move(0, 3, 2);
        pool.move(0, 4, 0);
        pool.move(0, 9, 10);
        pool.bag(0, 9);
        pool.bag(0, 10);
        StringBuilder text = new StringBuilder();
        for (int i = 0; i < words.length; i++) {
            text.append("let a").append("bcdefghijk".charAt(i)).append('=').append(words[i]).append(';');
        }
        Texts.take(pool, text.toString());
        for (int i = 0; i < words.length; i++) {
            due(words[i], pool.value(0, i), are[i]);
        }
        refuses("let a=house;", 6);
        refuses("let a=wash;", 6);
        refuses("let a=Life;", 6);

        doc.says("or a NAME that a \"let\" ahead told.");
        is("1;let b=x+1;let c=b*b", 1);
        takes("let a=1;let b=a;price=a+b;", "let a=1;let b=a;price=a+b;");
        refuses("let a=b;let b=1;", 6);
        refuses("let a=a;", 6);
        refuses("price=a;let a=1;", 6);
    }

    private static void namesAndNumbers() {
        doc.says("NAME: 1 to 8 letters,");
        takes("let z=1;let abcdefgh=2;", "let z=1;let abcdefgh=2;");
        refuses("let abcdefghi=1;", 4);
        refuses("let =1;", 4);
        refuses("let a1=1;", 5);
        refuses("let 1a=1;", 4);

        doc.says("none of the words above or in the grammar,");
        String[] taken = {"washes", "age", "life", "worth", "grams", "sort", "kind", "days", "misses", "day", "let",
            "price", "loss", "house", "works", "pool", "retire", "feast", "to", "by", "mix", "with", "heat", "for",
            "if", "then", "else", "min", "max", "or", "and", "not"};
        for (String word : taken) {
            refuses("let " + word + "=1;", 4);
            takes("let " + word + "z=1;", "let " + word + "z=1;");
        }
        takes("let work=1;", "let work=1;");

        doc.says("not told ahead.");
        refuses("let a=1;let a=2;", 12);
        refuses("let a=1;let b=1;let a=2;", 20);
        takes("let a=1;let aa=2;", "let a=1;let aa=2;");

        doc.says("NUMBER: 1 to 9 digits.");
        is("0", 0);
        is("999999999", 999_999_999);
        is("000000007", 7);
        refuses("let a=1234567890;", 6);
        refuses("let a=0000000001;", 6);
        refuses("price 1234567890=1;", 6);
        refuses("mix 1 with 1234567890;", 11);
    }

    private static void tokens() {
        doc.says("Tokens as long as they go: words of letters a to z, digits, signs;");
        refuses("leta=1;", 0);
        refuses("let ab=1;let c=a b;", 15);
        refuses("let a=lifeage;", 6);
        takes("feast 1to 2by 3;", "feast 1 to 2 by 3;");
        takes("price 1=2;price3=4;", "price 1=2;price 3=4;");
        refuses("let a=1 2;", 8);
        for (char sign : new char[] {'!', '&', '.', ':', '^', '_', '{', '\'', '"', '@', '`'}) {
            refuses("let a=1" + sign + "2;", 7);
        }
        for (int other : new int[] {0, 9, 13, 31, 127, 128, 255}) {
            refuses("let a=1;" + (char) other, 8);
        }
        refuses("let a=\u00e9;", 6);
        refuses("let A=1;", 4);

        doc.says("between them blanks (bytes 32 and 10).");
        takes("let\na\n=  1 \n;\n", "let a=1;");
        takes("  let a=1  ;  let b=2;", "let a=1;let b=2;");
        refuses("l et a=1;", 0);
        refuses("let\ta=1;", 3);
    }

    private static void opens() {
        doc.says("Of \"if\" (till its last EX ends), \"min\", \"max\" (each with its \"(\"), other \"(\", \"-\""
            + " ahead, \"not\", \"[\" at most 10 are open in one another.");
        takes("let a=" + "(".repeat(10) + "1" + ")".repeat(10) + ";", "let a=1;");
        refuses("let a=" + "(".repeat(11) + "1" + ")".repeat(11) + ";", 16);
        takes("let a=" + "-".repeat(10) + "1;", "let a=" + "-".repeat(10) + "1;");
        refuses("let a=" + "-".repeat(11) + "1;", 16);
        takes("let a=" + "min(".repeat(10) + "1" + ")".repeat(10) + ";",
            "let a=" + "min(".repeat(10) + "1" + ")".repeat(10) + ";");
        refuses("let a=" + "max(".repeat(11) + "1" + ")".repeat(11) + ";", 46);
        String ifs = "if 1=1 then 1 else ";
        takes("let a=" + ifs.repeat(10) + "1;", "let a=" + ifs.repeat(10) + "1;");
        refuses("let a=" + ifs.repeat(11) + "1;", 6 + 10 * ifs.length());
        String nots = "not ".repeat(9);
        takes("let a=if " + nots + "1=1 then 1 else 1;", "let a=if " + nots + "1=1 then 1 else 1;");
        refuses("let a=if not " + nots + "1=1 then 1 else 1;", 9 + 4 * 9);
        String brackets = "[".repeat(9) + "1=1" + "]".repeat(9);
        takes("let a=if " + brackets + " then 1 else 1;", "let a=if 1=1 then 1 else 1;");
        refuses("let a=if [" + brackets + "] then 1 else 1;", 9 + 9);
        takes("let a=if 1=1 then ((((((((1)))))))) else 1;", "let a=if 1=1 then 1 else 1;");
        refuses("let a=if 1=1 then 1 else -(((((((((1", 6 + 19 + 9);
        takes("let a=" + "(1)+".repeat(12) + "-1-(-1);", "let a=" + "1+".repeat(12) + "-1--1;");
        takes("let a=((((((((((1))))))))))*((((((((((1))))))))));", "let a=1*1;");
        takes("let a=min(if 1=1 then -(-(-(-(1)))) else 1);", "let a=min(if 1=1 then----1 else 1);");
        refuses("let a=min(if 1=1 then -(-(-(-(-1)))) else 1);", 22 + 8);
    }

    private static void statementsUpTo24() {
        doc.says("At most 24 statements.");
        takes("heat 1 for 2;".repeat(24), "heat 1 for 2;".repeat(24));
        refuses("heat 1 for 2;".repeat(25), 24 * 13);
        takes("heat 1 for 2;".repeat(24) + "\n ", "heat 1 for 2;".repeat(24));
        refuses("heat 1 for 2;".repeat(24) + " \n1", 24 * 13 + 2);
        refuses("heat 1 for 2;".repeat(24) + "heat", 24 * 13);
    }

    private static void faults() {
        doc.says("FAULT: the place of the first byte of the first token (or byte that begins none) with which no"
            + " such text goes on");
        refuses("let a=1; lett b=2;", 9);
        refuses("let a=12 34;", 9);
        refuses("let a=1; let b=?;", 15);
        refuses("let a=(1]; let b=?;", 8);
        refuses("let a=min(1;2);", 11);
        refuses("let a=1 then 2;", 8);
        refuses("let a=if 1<2 then 1 else 2 else 3;", 27);
        refuses("let a=if 1<2 else 1;", 13);
        refuses("let a=1, 2;", 7);
        refuses("let a=1);", 7);
        refuses("let\nlet=1;", 4);
    }

    private static void faultsByKind() {
        doc.says("(a NUMBER of more digits, a WORD that isn't told, a NAME that isn't one, the eleventh open, the"
            + " 25th statement's first);");
        refuses("price=1+ 1234567890;", 9);
        refuses("price=1+ elsewhere;", 9);
        refuses("let  price=1;", 5);
        refuses("price=---------- -1;", 17);
        refuses("price=1;".repeat(24) + "  price=1;", 24 * 8 + 2);

        doc.says("the text's length, if more must come.");
        refuses("let a=1", 7);
        refuses("let a=1 \n ", 10);
        refuses("let a=1; price", 14);
        refuses("let a=(((", 9);
        refuses("let a=min", 9);
    }

    private static void results() {
        doc.says("Each result is held to from -10^12 to 10^12;");
        is("999999999*999999999", 1_000_000_000_000L);
        is("-999999999*999999999", -1_000_000_000_000L);
        is("1000000*1000000", 1_000_000_000_000L);
        is("1000000*1000000+1", 1_000_000_000_000L);
        is("1000000*1000000+1-1", 999_999_999_999L);
        is("-1000000*1000000-1+1", -999_999_999_999L);
        is("1000000*1000000*1000000/1000000", 1_000_000);
        is("-(1000000*1000000)", -1_000_000_000_000L);
        is("999999*1000000", 999_999_000_000L);

        doc.says("/ towards 0, % with the first one's sign, both 0 by 0.");
        is("7/2", 3);
        is("-7/2", -3);
        is("7/-2", -3);
        is("-7/-2", 3);
        is("7%2", 1);
        is("-7%2", -1);
        is("7%-2", 1);
        is("-7%-2", -1);
        is("-6%2", 0);
        is("7/0", 0);
        is("7%0", 0);
        is("-7/(1-1)", 0);
        is("0/7", 0);
    }

    private static void names() {
        doc.says("A NAME is what its EX is by what holds where it's asked.");
        LinenPool pool = new LinenPool();
        pool.sort(10, 0, 5, 20, 100);
        pool.sort(25, 0, 5, 20, 60);
        pool.house(1, 0, 0, 0);
        pool.house(3, 0, 0, 0);
        pool.sheet(0, 0);
        pool.sheet(1, 0);
        Texts.take(pool, "let k=kind;let g=grams+k;let d=day;price=g*10+k+d*1000;");
        due("no house's kind in stock", pool.value(0, 0), 0);
        due("10 and 0", pool.value(0, 1), 10);
        due("25 and 0", pool.value(1, 1), 25);
        due("11 times 10 and 1", pool.price(0, 0), 111);
        due("28 times 10 and 3", pool.price(1, 1), 283);
        pool.move(0, 0, 11);
        due("at house 1", pool.value(0, 0), 3);
        pool.day(2);
        due("today", pool.value(0, 2), 2);
        due("13 times 10, 3 and 2,000", pool.price(0, 1), 2133);
        due("as it was on day 0", pool.bill(1, 0, 0, 2), 133);
    }

    private static void inForce() {
        doc.says("Taken (up to 8) they're in force from TODAY on; on a DAY those taken last by then.");
        LinenPool pool = new LinenPool();
        pool.sort(10, 0, 5, 20, 100);
        pool.house(1, 0, 0, 0);
        pool.sheet(0, 0);
        pool.move(0, 0, 10);
        due("none in force", pool.price(0, 0), 5);
        due("nor a name", pool.value(0, 0), NO_VALUE);
        pool.day(2);
        pool.move(0, 1, 10);
        pool.move(0, 2, 10);
        Texts.take(pool, "price=100;let a=1;");
        due("the first from 2 on", pool.price(0, 0), 100);
        Texts.take(pool, "price=200;");
        due("the last of those of one day", pool.price(0, 0), 200);
        due("it has no name", pool.value(0, 0), NO_VALUE);
        due("5 on 0 and 1 each, 200 on 2", pool.bill(0, 0, 2, 2), 210);
        pool.day(4);
        pool.move(0, 3, 10);
        pool.move(0, 4, 10);
        Texts.take(pool, "price=300;");
        due("200 on 3, 300 on 4", pool.bill(0, 3, 4, 4), 500);
        for (int i = 3; i < 8; i++) {
            due("terms " + i, Texts.take(pool, "price=" + i + ";"), i);
        }
        due("a ninth", Texts.take(pool, "price=9;"), -3);
        due("the eighth are in force", pool.price(0, 0), 7);
        due("8 are there", pool.count(6), 8);
    }

    private static void written() {
        doc.says("As they're WRITTEN: the statements in order, their tokens (NUMBERS without zeros ahead);");
        takes("retire = 1 ; heat 2 for 3 ; let a = 4 ; retire = 5 ;", "retire=1;heat 2 for 3;let a=4;retire=5;");
        takes("price 007=000;", "price 7=0;");
        takes("feast 00 to 010 by 0100;", "feast 0 to 10 by 100;");
        takes("mix 000000001 with 02;heat 0 for 00;", "mix 1 with 2;heat 0 for 0;");

        doc.says("one blank between two that are words or digits, none else;");
        takes("price   1  =  life  +  2 ;", "price 1=life+2;");
        takes("let a=if  1 < 2  then  3  else  4 ;", "let a=if 1<2 then 3 else 4;");
        takes("let a=if not 1<2 and 3=4 or 5>6 then -1 else (1+2)*3;",
            "let a=if not 1<2 and 3=4 or 5>6 then-1 else(1+2)*3;");
        takes("let a=if not [1<2 or 3<4] and [5<6 or 7<8] then min ( 1 , 2 ) else max(3,4);",
            "let a=if not[1<2 or 3<4]and[5<6 or 7<8]then min(1,2)else max(3,4);");
        takes("feast 1to 2by(3+4)*5;", "feast 1 to 2 by(3+4)*5;");
        takes("feast 1 to 2 by - 3;", "feast 1 to 2 by-3;");
        takes("loss  house = life ;", "loss house=life;");
    }

    /** An EX as it's put in, and as it's WRITTEN. */
    private static void writes(String ex, String written) {
        takes("let a=1;let b=2;let c=3;let d=" + ex + ";", "let a=1;let b=2;let c=3;let d=" + written + ";");
    }

    private static void parens() {
        doc.says("\"(\" and \")\" around an EX where it's needed alone (\"if\" as a part of a SUM, PROD, \"-\", of"
            + " < > =;");
        String ex = "if a<b then b else c";
        writes("(" + ex + ")", ex);
        writes("(" + ex + ")+a", "(" + ex + ")+a");
        writes("a-(" + ex + ")", "a-(" + ex + ")");
        writes("(" + ex + ")*a", "(" + ex + ")*a");
        writes("a%(" + ex + ")", "a%(" + ex + ")");
        writes("-(" + ex + ")", "-(" + ex + ")");
        writes("if (" + ex + ")<a then (" + ex + ") else (" + ex + ")",
            "if(" + ex + ")<a then " + ex + " else " + ex);
        writes("if a=((" + ex + ")) then b else c", "if a=(" + ex + ")then b else c");
        writes("min((" + ex + "),(a))", "min(" + ex + ",a)");

        doc.says("a SUM in a PROD;");
        writes("(a+b)*c", "(a+b)*c");
        writes("a*(b-c)", "a*(b-c)");
        writes("((a+b))/(c)", "(a+b)/c");
        writes("(a)*(b)+(c)", "a*b+c");

        doc.says("a SUM behind \"-\" between, \"+\";");
        writes("a-(b+c)", "a-(b+c)");
        writes("a-(b-c)", "a-(b-c)");
        writes("a+(b+c)", "a+(b+c)");
        writes("(a+b)+c", "a+b+c");
        writes("(a-b)-c", "a-b-c");
        writes("a-(b*c)", "a-b*c");
        writes("(a*b)-(c)", "a*b-c");

        doc.says("a PROD behind \"*\", \"/\", \"%\";");
        writes("a*(b*c)", "a*(b*c)");
        writes("a/(b*c)", "a/(b*c)");
        writes("a%(b/c)", "a%(b/c)");
        writes("(a*b)/c", "a*b/c");
        writes("(a/b)*(c)", "a/b*c");
        writes("a*(-b)", "a*-b");
        writes("a-(-b)", "a--b");

        doc.says("a SUM, PROD behind \"-\" ahead),");
        writes("-(a+b)", "-(a+b)");
        writes("-(a*b)", "-(a*b)");
        writes("-(a)", "-a");
        writes("-(-a)", "--a");
        writes("-(min(a,b))", "-min(a,b)");
        writes("(-a)*b", "-a*b");
        writes("(-a)+b", "-a+b");
        writes("-((a))*b", "-a*b");
    }

    private static void brackets() {
        doc.says("\"[\" and \"]\" likewise (\"or\" in \"and\"; \"or\", \"and\" behind \"not\").");
        writes("if [a<b] then b else c", "if a<b then b else c");
        writes("if [a<b or b<c] and c<a then b else c", "if[a<b or b<c]and c<a then b else c");
        writes("if a<b and [b<c or c<a] then b else c", "if a<b and[b<c or c<a]then b else c");
        writes("if [a<b and b<c] or [c<a and a=b] then b else c", "if a<b and b<c or c<a and a=b then b else c");
        writes("if not [a<b or b<c] then b else c", "if not[a<b or b<c]then b else c");
        writes("if not [a<b and b<c] then b else c", "if not[a<b and b<c]then b else c");
        writes("if not [a<b] then b else c", "if not a<b then b else c");
        writes("if not [not [a<b]] then b else c", "if not not a<b then b else c");
        writes("if [not a<b] and [[b<c]] then b else c", "if not a<b and b<c then b else c");
        writes("if [[a<b or b<c]] then b else c", "if a<b or b<c then b else c");
    }

    private static void whatHolds() {
        doc.says("What holds: washes, age (the DAY less that on which it came), life, worth, grams, sort of a"
            + " SHEET;");
        LinenPool pool = new LinenPool();
        pool.sort(10, 0, 5, 20, 100);
        pool.sort(25, 1, 8, 30, 60);
        pool.house(2, 0, 0, 0);
        pool.day(3);
        pool.sheet(1, 0);
        Texts.take(pool, "let a=washes;let b=age;let c=life;let d=worth;let e=grams;let f=sort;let g=kind;let h=days;"
            + "let i=misses;let j=day;");
        pool.day(10);
        pool.move(0, 4, 2);
        pool.move(0, 5, 0);
        long[] inStock = {1, 7, 30, 60, 25, 1, 0, 0, 0, 10};
        for (int k = 0; k < inStock.length; k++) {
            due("name " + k + " in stock", pool.value(0, k), inStock[k]);
        }

        doc.says("kind of a HOUSE, days (the DAY less SINCE), misses of one at a HOUSE; day.");
        pool.move(0, 6, 10);
        pool.bag(0, 6);
        pool.bag(0, 7);
        pool.bag(0, 10);
        long[] atAHouse = {1, 7, 30, 60, 25, 1, 2, 4, 2, 10};
        for (int k = 0; k < atAHouse.length; k++) {
            due("name " + k + " at a house", pool.value(0, k), atAHouse[k]);
        }

        doc.says("What isn't there is 0. ```");
        pool.move(0, 8, 1);
        for (int k = 0; k < inStock.length; k++) {
            due("name " + k + " soiled", pool.value(0, k), inStock[k]);
        }
    }
}
