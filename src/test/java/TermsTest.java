/** Promises 26 to 30: the tape, TERMS and their FAULTS, how they're WRITTEN, values. */
public final class TermsTest {
    private static final Check CHECK = new Check();
    private static final long NO_VALUE = -2_000_000_000_000L;

    public static void main(String[] args) {
        tape();
        takenAndRefused();
        faultsOfTokens();
        faultsOfNames();
        faultsOfStatements();
        faultsOfExes();
        tooManyOpen();
        tooManyStatements();
        textsEnd();
        writtenBytes();
        writtenStatements();
        writtenExes();
        writtenConds();
        values();
        heldValues();
        conditions();
        names();
        whatHolds();
        valuesOfNone();
        CHECK.end();
    }

    private static String times(String text, int n) {
        return text.repeat(n);
    }

    private static LinenPool pool() {
        LinenPool pool = new LinenPool();
        pool.sort(10, 0, 5, 20, 100);
        pool.sort(25, 1, 8, 10, 60);
        pool.house(1, 3, 4, 60);
        pool.house(2, 10, 0, 100);
        pool.sheet(0, 0);
        pool.sheet(1, 1);
        return pool;
    }

    private static void tape() {
        LinenPool pool = new LinenPool();
        for (int i = 1; i <= 20; i++) {
            CHECK.due("26: feed " + i, pool.feed(0x20202020, 0, -1, 0x0a0a0a0a, Integer.MIN_VALUE), 20 * i);
        }
        CHECK.due("26: more than 400", pool.feed(0, 0, 0, 0, 0), -1);
        CHECK.due("26: does nothing", pool.count(9), 400);
        CHECK.due("26: byte 0 begins no token", pool.terms(400), -1);
        CHECK.due("26: the highest byte first", pool.fault(), 4);
        CHECK.due("27: the tape is empty behind a FAULT", pool.count(9), 0);
        pool.feed('l' << 24 | 'e' << 16 | 't' << 8 | ' ', 'a' << 24 | '=' << 16 | '1' << 8 | ';', 0, 0, 0);
        CHECK.due("27: the first eight bytes", pool.terms(8), 0);
        CHECK.due("27: the tape is empty", pool.count(9), 0);
        CHECK.due("26: in their order", Texts.written(pool, 0), "let a=1;");
    }

    private static void takenAndRefused() {
        LinenPool pool = pool();
        CHECK.due("27: below 0", pool.terms(-1), -2);
        CHECK.due("27: more than there are", pool.terms(1), -2);
        CHECK.due("27: no bytes", pool.terms(0), 0);
        CHECK.due("29: no bytes", pool.written(0, -1), 0);
        Texts.feed(pool, "?");
        CHECK.due("27: more than there are", pool.terms(21), -2);
        CHECK.due("27: does nothing", pool.count(9), 20);
        CHECK.due("28: nor to the FAULT", pool.fault(), -1);
        CHECK.due("27: a FAULT", pool.terms(20), -1);
        CHECK.due("28: its place", pool.fault(), 0);
        CHECK.due("27: -2 again", pool.terms(1), -2);
        CHECK.due("28: stays", pool.fault(), 0);
        CHECK.due("27: none was taken", pool.count(6), 1);
        for (int i = 1; i < 8; i++) {
            CHECK.due("27: terms " + i, Texts.take(pool, "let a=" + i + ";"), i);
            CHECK.due("28: none", pool.fault(), -1);
            CHECK.due("30: those taken last", pool.value(0, 0), i);
        }
        Texts.feed(pool, "let a=9;");
        CHECK.due("27: there are 8", pool.terms(8), -3);
        CHECK.due("27: does nothing", pool.count(9), 20);
        CHECK.due("27: more than there are", pool.terms(21), -2);
        CHECK.due("28: stays", pool.fault(), -1);
        CHECK.due("27: still in force", pool.value(0, 0), 7);
    }

    private static void fault(String text, int place) {
        LinenPool pool = new LinenPool();
        Texts.feed(pool, text);
        CHECK.due("27: terms of '" + text + "'", pool.terms(text.length()), place == -1 ? 0 : -1);
        CHECK.due("28: fault of '" + text + "'", pool.fault(), place);
        CHECK.due("27: how many behind '" + text + "'", pool.count(6), place == -1 ? 1 : 0);
        CHECK.due("28: the model's fault of '" + text + "'", ModelTerms.fault(text), place);
    }

    private static void faultsOfTokens() {
        fault("", -1);
        fault(" \n ", -1);
        fault("#", 0);
        fault("let a=1;\t", 8);
        fault("let a=1;\r", 8);
        fault("let A=1;", 4);
        fault("let a=1;\u00e9", 8);
        fault("let a=1;\u0080", 8);
        fault("let a=1;\u0000", 8);
        fault("letx=1;", 0);
        fault("let a=1price=2;", 7);
        fault("let a=12ab;", 8);
        fault("mix1with2;", -1);
        fault("let\na\n=\n1\n;\n", -1);
        fault("let a=123456789;", -1);
        fault("let a=1234567890;", 6);
        fault("let a=0000000001;", 6);
        fault("price 123456789=1;", -1);
        fault("price 1234567890=1;", 6);
        fault("mix 0000000000 with 1;", 4);
        fault("mix 1 with 1234567890", 11);
    }

    private static void faultsOfNames() {
        fault("let abcdefgh=1;", -1);
        fault("let abcdefghi=1;", 4);
        fault("let 1=1;", 4);
        fault("let =1;", 4);
        String[] reserved = {"let", "price", "loss", "house", "works", "pool", "retire", "feast", "to", "by", "mix",
            "with", "heat", "for", "if", "then", "else", "min", "max", "or", "and", "not", "washes", "age", "life",
            "worth", "grams", "sort", "kind", "days", "misses", "day"};
        for (String word : reserved) {
            fault("let " + word + "=1;", 4);
            fault("let " + word + "q=1;", -1);
        }
        fault("let a=1;let a=2;", 12);
        fault("let a=1;let b=a;let c=a+b;", -1);
        fault("let a=a;", 6);
        fault("let a=b;let b=1;", 6);
        fault("let ab=1;let a=ab;let abc=a+ab;", -1);
        fault("let ab=1;retire=a;", 16);
        fault("let a=washes+age+life+worth+grams+sort+kind+days+misses+day;", -1);
        fault("let a=price;", 6);
        fault("let a=to;", 6);
    }

    private static void faultsOfStatements() {
        fault("a=1;", 0);
        fault("1;", 0);
        fault(";", 0);
        fault("let a=1;;", 8);
        fault("let a 1;", 6);
        fault("let a=1 2;", 8);
        fault("let a=;", 6);
        fault("price a=1;", 6);
        fault("price 1 2=1;", 8);
        fault("price=1;price 0=2;", -1);
        fault("loss=1;", 4);
        fault("loss all=1;", 5);
        fault("loss day=1;", 5);
        fault("loss house works=1;", 11);
        fault("loss house=1;loss works=1;loss pool=1;", -1);
        fault("retire 1;", 7);
        fault("retire=1;", -1);
        fault("feast to 1 by 2;", 6);
        fault("feast 1 by 2;", 8);
        fault("feast 1 to by 2;", 11);
        fault("feast 1 to 2=3;", 12);
        fault("feast 1 to 2 by 3;", -1);
        fault("feast -1 to 2 by 3;", 6);
        fault("feast 1 to 2 by ;", 16);
        fault("mix 1 with 2=3;", 12);
        fault("mix 1 for 2;", 6);
        fault("mix a with 2;", 4);
        fault("heat 1 with 2;", 7);
        fault("heat 1 for 2;", -1);
        fault("heat 1 for day;", 11);
        fault("mix 1 with 2", 12);
    }

    private static void faultsOfExes() {
        fault("let a=1+;", 8);
        fault("let a=1+*2;", 8);
        fault("let a=(1;", 8);
        fault("let a=1);", 7);
        fault("let a=();", 7);
        fault("let a=[1];", 6);
        fault("let a=min 1;", 10);
        fault("let a=min();", 10);
        fault("let a=min(1,);", 12);
        fault("let a=min(1 2);", 12);
        fault("let a=max(1,2,3)+min(4);", -1);
        fault("let a=(1,2);", 8);
        fault("let a=1+if 1<2 then 3 else 4;", 8);
        fault("let a=-if 1<2 then 3 else 4;", 7);
        fault("let a=(if 1<2 then 3 else 4)+1;", -1);
        fault("let a=if 1<2 then 3 else 4+1;", -1);
        fault("let a=(1<2);", 8);
        fault("let a=if(1)then 2 else 3;", 11);
        fault("let a=if 1 then 2 else 3;", 11);
        fault("let a=if 1<2 3;", 13);
        fault("let a=if 1<2 then 3;", 19);
        fault("let a=if 1<2<3 then 4 else 5;", 12);
        fault("let a=if 1<=2 then 4 else 5;", 11);
        fault("let a=if (1<2) then 4 else 5;", 11);
        fault("let a=if [1<2) then 4 else 5;", 13);
        fault("let a=if [1] then 4 else 5;", 11);
        fault("let a=if not 1 then 4 else 5;", 15);
        fault("let a=if 1<2 and then 4 else 5;", 17);
        fault("let a=if 1<2 or 2>1 and 3=3 then 4 else 5;", -1);
        fault("let a=if 1<if 1<2 then 3 else 4 then 5 else 6;", 11);
        fault("let a=not 1<2;", 6);
        fault("let a=1<2;", 7);
        fault("let a=--1*---2%(3);", -1);
        fault("let a=+1;", 6);
    }

    private static void tooManyOpen() {
        fault("let a=" + times("(", 10) + "1" + times(")", 10) + ";", -1);
        fault("let a=" + times("(", 11) + "1" + times(")", 11) + ";", 16);
        fault("let a=" + times("-", 10) + "1;", -1);
        fault("let a=" + times("-", 11) + "1;", 16);
        fault("let a=" + times("min(", 10) + "1" + times(")", 10) + ";", -1);
        fault("let a=" + times("max(", 11) + "1" + times(")", 11) + ";", 46);
        fault("let a=" + times("if 1<2 then 3 else ", 10) + "1;", -1);
        fault("let a=" + times("if 1<2 then 3 else ", 11) + "1;", 196);
        fault("let a=" + times("if 1<2 then ", 10) + "1" + times(" else 2", 10) + ";", -1);
        fault("let a=" + times("if 1<2 then ", 11) + "1" + times(" else 2", 11) + ";", 126);
        fault("let a=if " + times("not ", 9) + "1<2 then 3 else 4;", -1);
        fault("let a=if " + times("not ", 10) + "1<2 then 3 else 4;", 45);
        fault("let a=if " + times("[", 9) + "1<2" + times("]", 9) + " then 3 else 4;", -1);
        fault("let a=if " + times("[", 10) + "1<2" + times("]", 10) + " then 3 else 4;", 18);
        fault("let a=" + times("(", 9) + "1+(2)-(3)*(4)+-5+--6" + times(")", 9) + ";", 33);
        fault("let a=" + times("(", 9) + "1+(2)-(3)*(4)+-5+-6" + times(")", 9) + ";", -1);
        fault("let a=(1)" + times("+(1)", 20) + "-" + times("-1", 30) + ";", -1);
        fault("let a=if not 1<2 and not 2<3 or [1<2] and [2<3] or 2<3 then 3 else 4;", -1);
        fault("let a=(if 1<2 then 3 else 4)+" + times("(", 10) + "1" + times(")", 10) + ";", -1);
        fault("let a=if " + times("(", 9) + "1" + times(")", 9) + "<" + times("-", 9) + "1 then "
            + times("(", 9) + "1" + times(")", 9) + " else " + times("-", 9) + "1;", -1);
        fault("let a=if 1<2 then 3 else " + times("(", 10) + "1;", 34);
        fault("let a=" + times("(", 10) + "if 1<2 then 3 else 4;", 16);
        fault("let a=" + times("(", 10) + "-1;", 16);
        fault("let a=" + times("(", 10) + "min;", 16);
        fault("let a=if " + times("-(", 4) + "-1<2;", 19);
    }

    private static void tooManyStatements() {
        String one = "mix 1 with 2;";
        fault(times(one, 24), -1);
        fault(times(one, 24) + "\n ", -1);
        fault(times(one, 25), 312);
        fault(times(one, 24) + " retire", 313);
        fault(times(one, 24) + "#", 312);
        fault(times(one, 23) + "mix 1 with 2", 311);
    }

    private static void textsEnd() {
        fault("let", 3);
        fault("let ", 4);
        fault("let a", 5);
        fault("let a=", 6);
        fault("let a=1", 7);
        fault("let a=1 \n", 9);
        fault("let a=(1+2", 10);
        fault("let a=min", 9);
        fault("let a=if 1", 10);
        fault("let a=if 1<2 then 3 ", 20);
        fault("price", 5);
        fault("loss", 4);
        fault("feast 1 to 2 by", 15);
        fault("le", 0);
        fault("let a=wash", 6);
    }

    private static void written(String text, String due) {
        LinenPool pool = new LinenPool();
        CHECK.due("27: terms of '" + text + "'", Texts.take(pool, text), 0);
        CHECK.due("29: written of '" + text + "'", Texts.written(pool, 0), due);
        CHECK.due("29: written again", Texts.take(pool, due), 1);
        CHECK.due("29: stays as written", Texts.written(pool, 1), due);
    }

    private static void writtenBytes() {
        LinenPool pool = new LinenPool();
        Texts.take(pool, "mix 1 with 2;");
        CHECK.due("29: how many", pool.written(0, -1), 13);
        CHECK.due("29: the first", pool.written(0, 0), 'm');
        CHECK.due("29: the last", pool.written(0, 12), ';');
        CHECK.due("29: behind it", pool.written(0, 13), -1);
        CHECK.due("29: i below NONE", pool.written(0, -2), -1);
        CHECK.due("29: no terms", pool.written(1, 0), -1);
        CHECK.due("29: no terms", pool.written(-1, -1), -1);
    }

    private static void writtenStatements() {
        written("", "");
        written(" \n", "");
        written("let  a = 007 ;", "let a=7;");
        written("price=00;price 0012 = 1;", "price=0;price 12=1;");
        written("loss house=1; loss works=(2); loss pool=3;", "loss house=1;loss works=2;loss pool=3;");
        written("retire = age ;", "retire=age;");
        written("feast 01 to 2 by(3);", "feast 1 to 2 by 3;");
        written("feast 1 to 2 by -3;", "feast 1 to 2 by-3;");
        written("feast 1 to 2 by if 1<2 then 3 else 4;", "feast 1 to 2 by if 1<2 then 3 else 4;");
        written("mix1with2;", "mix 1 with 2;");
        written("heat 060for010;", "heat 60 for 10;");
        written("let abcdefgh=1;let b=abcdefgh;", "let abcdefgh=1;let b=abcdefgh;");
    }

    private static void ex(String text, String due) {
        written("retire=" + text + ";", "retire=" + due + ";");
    }

    private static void writtenExes() {
        ex("((1))", "1");
        ex("000", "0");
        ex("(1+2)+3", "1+2+3");
        ex("1+(2+3)", "1+(2+3)");
        ex("1-(2-3)", "1-(2-3)");
        ex("1-(2+(3))", "1-(2+3)");
        ex("1-(2*3)", "1-2*3");
        ex("(1*2)+(3/4)", "1*2+3/4");
        ex("(1+2)*3", "(1+2)*3");
        ex("3*(1-2)", "3*(1-2)");
        ex("(1*2)*3", "1*2*3");
        ex("1*(2*3)", "1*(2*3)");
        ex("1%(2/3)", "1%(2/3)");
        ex("(1%2)/3", "1%2/3");
        ex("-(1+2)", "-(1+2)");
        ex("-(1*2)", "-(1*2)");
        ex("(-1)*2", "-1*2");
        ex("-(1)", "-1");
        ex("-(-(1))", "--1");
        ex("1-(-2)", "1--2");
        ex("1 * (-2)", "1*-2");
        ex("-(min(1,(2)))", "-min(1,2)");
        ex("min ( (1+2) , (if 1<2 then 3 else 4) )", "min(1+2,if 1<2 then 3 else 4)");
        ex("(max(1))*2", "max(1)*2");
        ex("1+(if 1<2 then 3 else 4)", "1+(if 1<2 then 3 else 4)");
        ex("(if 1<2 then 3 else 4)-1", "(if 1<2 then 3 else 4)-1");
        ex("(if 1<2 then 3 else 4)*1", "(if 1<2 then 3 else 4)*1");
        ex("-(if 1<2 then 3 else 4)", "-(if 1<2 then 3 else 4)");
        ex("(if 1<2 then (3) else (4+5))", "if 1<2 then 3 else 4+5");
        ex("if 1<2 then (if 2<3 then 4 else 5) else (if 3<4 then 6 else 7)",
            "if 1<2 then if 2<3 then 4 else 5 else if 3<4 then 6 else 7");
        ex("if 1<2 then(-3)else-(4)", "if 1<2 then-3 else-4");
        ex("washes+age*life", "washes+age*life");
        ex("((1+2)+3)+4", "1+2+3+4");
        ex("((1+(2+3))+4)", "1+(2+3)+4");
        ex("((1*2)+3)*4", "(1*2+3)*4");
    }

    private static void cond(String text, String due) {
        written("retire=if " + text + " then 1 else 2;", "retire=if" + due + "then 1 else 2;");
    }

    private static void writtenConds() {
        cond("[1<2]", " 1<2 ");
        cond("(1+2)<(3*4)", " 1+2<3*4 ");
        cond("(if 1<2 then 3 else 4)<5", "(if 1<2 then 3 else 4)<5 ");
        cond("5=(if 1<2 then 3 else 4)", " 5=(if 1<2 then 3 else 4)");
        cond("1 > (2)", " 1>2 ");
        cond("[1<2 or 2<3] and 3<4", "[1<2 or 2<3]and 3<4 ");
        cond("1<2 and [2<3 or 3<4]", " 1<2 and[2<3 or 3<4]");
        cond("[1<2 and 2<3] or [3<4]", " 1<2 and 2<3 or 3<4 ");
        cond("1<2 or [2<3 or 3<4]", " 1<2 or 2<3 or 3<4 ");
        cond("[1<2 and 2<3] and [3<4 and 4<5]", " 1<2 and 2<3 and 3<4 and 4<5 ");
        cond("not [1<2]", " not 1<2 ");
        cond("not [not 1<2]", " not not 1<2 ");
        cond("not [1<2 and 2<3]", " not[1<2 and 2<3]");
        cond("not [1<2 or 2<3]", " not[1<2 or 2<3]");
        cond("[not 1<2] and 2<3", " not 1<2 and 2<3 ");
        cond("not (1)<2 and not -1<2", " not 1<2 and not-1<2 ");
        cond("[[1<2 or 2<3]]", " 1<2 or 2<3 ");
        cond("min(1,2)=max(3)", " min(1,2)=max(3)");
    }

    private static void value(String ex, long due) {
        LinenPool pool = pool();
        Texts.take(pool, "let a=" + ex + ";");
        CHECK.due("30: " + ex, pool.value(0, 0), due);
    }

    private static void values() {
        value("1+2*3", 7);
        value("(1+2)*3", 9);
        value("10-3-2", 5);
        value("10-(3-2)", 9);
        value("100/7/2", 7);
        value("100/(7/2)", 33);
        value("17%5*2", 4);
        value("-7/2", -3);
        value("7/-2", -3);
        value("-7%3", -1);
        value("7%-3", 1);
        value("7/0", 0);
        value("7%0", 0);
        value("--5", 5);
        value("-2*-3", 6);
        value("1--2", 3);
        value("min(3,1,2)", 1);
        value("max(3,7,2)", 7);
        value("min(5)", 5);
        value("max(-3,-4)", -3);
        value("000000012", 12);
    }

    private static void heldValues() {
        String most = "1000000*1000000";
        value(most, 1_000_000_000_000L);
        value(most + "+1", 1_000_000_000_000L);
        value(most + "+1-1", 999_999_999_999L);
        value("-" + most + "-1", -1_000_000_000_000L);
        value("-" + most + "-1+1", -999_999_999_999L);
        value("999999999*999999999", 1_000_000_000_000L);
        value("-999999999*999999999", -1_000_000_000_000L);
        value("999999999*-999999999", -1_000_000_000_000L);
        value("-999999999*-999999999", 1_000_000_000_000L);
        value("(" + most + ")*(" + most + ")", 1_000_000_000_000L);
        value("(" + most + ")*(-" + most + ")", -1_000_000_000_000L);
        value("(" + most + ")*0", 0);
        value("1000001*1000000", 1_000_000_000_000L);
        value("1000001*999999", 999_999_999_999L);
        value("-(" + most + "+" + most + ")", -1_000_000_000_000L);
        value("999999999*999+999999999", 999_999_999_000L);
    }

    private static void conditions() {
        String[][] conds = {{"1<2", "1"}, {"2<2", "0"}, {"3>2", "1"}, {"2>2", "0"}, {"2=2", "1"}, {"2=3", "0"},
            {"not 1<2", "0"}, {"not not 1<2", "1"}, {"1<2 or 2<1 and 2<1", "1"}, {"[1<2 or 2<1] and 2<1", "0"},
            {"2<1 or 1<2", "1"}, {"1<2 and 2<1", "0"}, {"not 2<1 and 2<1", "0"}, {"not [2<1 and 2<1]", "1"},
            {"1+1=2 and -1<0", "1"}, {"2<1 or 3<1 or 4<1", "0"}};
        for (String[] cond : conds) {
            value("if " + cond[0] + " then 1 else 0", Long.parseLong(cond[1]));
        }
        value("if 2<1 then 3 else if 1<2 then 4 else 5", 4);
        value("(if 1<2 then 3 else 4)*10", 30);
        value("if 1<2 then 3 else 4*10", 3);
    }

    private static void names() {
        LinenPool pool = pool();
        Texts.take(pool, "let a=sort+1;price=7;let b=a*10+a;let abcdefgh=b-a;");
        CHECK.due("30: first", pool.value(1, 0), 2);
        CHECK.due("30: by those ahead", pool.value(1, 1), 22);
        CHECK.due("30: third", pool.value(1, 2), 20);
        CHECK.due("30: of another sheet", pool.value(0, 2), 10);
        CHECK.due("30: no such", pool.value(0, 3), NO_VALUE);
        StringBuilder text = new StringBuilder("let a=1;");
        for (char c = 'b'; c < 'y'; c++) {
            char ahead = (char) (c - 1);
            text.append("let ").append(c).append('=').append(ahead).append('+').append(ahead).append(';');
        }
        LinenPool doubling = pool();
        CHECK.due("27: 24 names", Texts.take(doubling, text.toString()), 0);
        CHECK.due("30: 2 to the 23", doubling.value(0, 23), 8_388_608);
    }

    private static void whatHolds() {
        LinenPool pool = pool();
        pool.day(3);
        pool.sheet(1, 0);
        pool.move(0, 0, 2);
        pool.move(0, 1, 0);
        pool.move(0, 2, 11);
        pool.move(2, 3, 1);
        pool.day(9);
        pool.bag(1, 4);
        pool.bag(1, 2);
        String[] words = {"washes", "age", "life", "worth", "grams", "sort", "kind", "days", "misses", "day"};
        StringBuilder text = new StringBuilder();
        for (int i = 0; i < words.length; i++) {
            text.append("let ").append((char) ('a' + i)).append('=').append(words[i]).append(';');
        }
        CHECK.due("27: all words", Texts.take(pool, text.toString()), 0);
        int[] atHouse = {1, 9, 20, 100, 10, 0, 2, 7, 1, 9};
        int[] inStock = {0, 9, 10, 60, 25, 1, 0, 0, 0, 9};
        int[] soiled = {0, 6, 10, 60, 25, 1, 0, 0, 0, 9};
        for (int i = 0; i < words.length; i++) {
            CHECK.due("30: at a HOUSE, " + words[i], pool.value(0, i), atHouse[i]);
            CHECK.due("30: in STOCK, " + words[i], pool.value(1, i), inStock[i]);
            CHECK.due("30: SOILED, " + words[i], pool.value(2, i), soiled[i]);
        }
    }

    private static void valuesOfNone() {
        LinenPool pool = pool();
        CHECK.due("30: no terms", pool.value(0, 0), NO_VALUE);
        Texts.take(pool, "let a=1;");
        CHECK.due("30: a name", pool.value(1, 0), 1);
        CHECK.due("30: no sheet", pool.value(2, 0), NO_VALUE);
        CHECK.due("30: no sheet", pool.value(-1, 0), NO_VALUE);
        CHECK.due("30: no name", pool.value(0, 1), NO_VALUE);
        CHECK.due("30: k below 0", pool.value(0, -1), NO_VALUE);
        Texts.take(pool, "price=1;");
        CHECK.due("30: no names in those in force", pool.value(0, 0), NO_VALUE);
    }
}
