import java.math.BigInteger;
import java.util.ArrayList;
import java.util.HashMap;
import java.util.HashSet;
import java.util.List;
import java.util.Map;
import java.util.Set;
import java.util.function.Function;
import java.util.function.Predicate;

/**
 * TERMS in their plainest form, written apart from the class: the FAULT by trying the grammar's rules in all
 * ways, the values by whole numbers without bound.
 */
final class ModelTerms {
    static final BigInteger MOST = BigInteger.TEN.pow(12);
    private static final Set<String> THINGS = Set.of("washes", "age", "life", "worth", "grams", "sort", "kind",
        "days", "misses", "day");
    private static final Set<String> RESERVED = Set.of("let", "price", "loss", "house", "works", "pool", "retire",
        "feast", "to", "by", "mix", "with", "heat", "for", "if", "then", "else", "min", "max", "or", "and", "not",
        "washes", "age", "life", "worth", "grams", "sort", "kind", "days", "misses", "day");

    record Token(String text, int place) {
    }

    /** level: 0 "if", 1 SUM, 2 PROD, 3 ATOM. */
    record Ex(int level, List<String> words, Function<Map<String, Integer>, BigInteger> value) {
    }

    /** level: 0 "or", 1 "and", 2 TEST. */
    record Cond(int level, List<String> words, Predicate<Map<String, Integer>> holds) {
    }

    record Statement(String head, List<String> words, String name, int a, int b, Ex ex) {
    }

    final int from;
    final List<Statement> statements = new ArrayList<>();
    final List<Statement> lets = new ArrayList<>();
    private final List<Token> tokens;
    private int at;

    private ModelTerms(int from, List<Token> tokens) {
        this.from = from;
        this.tokens = tokens;
    }

    // ---- tokens ----

    private static boolean isLetter(char c) {
        return c >= 'a' && c <= 'z';
    }

    private static boolean isDigit(char c) {
        return c >= '0' && c <= '9';
    }

    static List<Token> tokens(String text) {
        List<Token> tokens = new ArrayList<>();
        int i = 0;
        while (i < text.length()) {
            int j = i + 1;
            char c = text.charAt(i);
            if (isLetter(c)) {
                while (j < text.length() && isLetter(text.charAt(j))) {
                    j++;
                }
            } else if (isDigit(c)) {
                while (j < text.length() && isDigit(text.charAt(j))) {
                    j++;
                }
            }
            if (c != 32 && c != 10) {
                tokens.add(new Token(text.substring(i, j), i));
            }
            i = j;
        }
        return tokens;
    }

    // ---- the FAULT: all ways to go on are kept, as stacks of what must come ----

    private static final Map<String, String[]> RULES = new HashMap<>();

    private static void rule(String left, String... ways) {
        RULES.put(left, ways);
    }

    static {
        rule("TEXT", "", "STATEMENT TEXT");
        rule("STATEMENT", "let NEWNAME = EX ; +let", "price = EX ;", "price NUMBER = EX ;", "loss PARTY = EX ;",
            "retire = EX ;", "feast NUMBER to NUMBER by EX ;", "mix NUMBER with NUMBER ;", "heat NUMBER for NUMBER ;");
        rule("PARTY", "house", "works", "pool");
        rule("EX", "+open if COND then EX else EX +close", "SUM");
        rule("SUM", "PROD SUMS");
        rule("SUMS", "", "+ PROD SUMS", "- PROD SUMS");
        rule("PROD", "ATOM PRODS");
        rule("PRODS", "", "* ATOM PRODS", "/ ATOM PRODS", "% ATOM PRODS");
        rule("ATOM", "NUMBER", "WORD", "+open min ( EX MORE ) +close", "+open max ( EX MORE ) +close",
            "+open ( EX ) +close", "+open - ATOM +close");
        rule("MORE", "", ", EX MORE");
        rule("COND", "ALL CONDS");
        rule("CONDS", "", "or ALL CONDS");
        rule("ALL", "TEST ALLS");
        rule("ALLS", "", "and TEST ALLS");
        rule("TEST", "+open not TEST +close", "+open [ COND ] +close", "SUM SIGN SUM");
        rule("SIGN", "<", ">", "=");
    }

    /** One way so far: what must come, what is open, the NAMES told, the last new one, the statements begun. */
    private record Way(List<String> stack, int open, List<String> names, String fresh, int begun) {
        Way replaced(String symbols) {
            List<String> next = new ArrayList<>();
            if (!symbols.isEmpty()) {
                next.addAll(List.of(symbols.split(" ")));
            }
            next.addAll(stack.subList(1, stack.size()));
            return new Way(next, open, names, fresh, begun);
        }
    }

    private static void spread(Way way, List<Way> ready) {
        if (way.stack.isEmpty()) {
            ready.add(way);
            return;
        }
        String top = way.stack.get(0);
        Way rest = way.replaced("");
        if (top.equals("+open")) {
            if (way.open < 10) {
                spread(new Way(rest.stack, way.open + 1, way.names, way.fresh, way.begun), ready);
            }
        } else if (top.equals("+close")) {
            spread(new Way(rest.stack, way.open - 1, way.names, way.fresh, way.begun), ready);
        } else if (top.equals("+let")) {
            List<String> names = new ArrayList<>(way.names);
            names.add(way.fresh);
            spread(new Way(rest.stack, way.open, names, way.fresh, way.begun), ready);
        } else if (RULES.containsKey(top)) {
            boolean begins = top.equals("STATEMENT");
            if (begins && way.begun >= 24) {
                return;
            }
            for (String symbols : RULES.get(top)) {
                Way next = way.replaced(symbols);
                spread(new Way(next.stack, next.open, next.names, next.fresh, way.begun + (begins ? 1 : 0)), ready);
            }
        } else {
            ready.add(way);
        }
    }

    private static boolean matches(String due, String token, List<String> names) {
        switch (due) {
            case "NUMBER":
                return isDigit(token.charAt(0)) && token.length() <= 9;
            case "WORD":
                return THINGS.contains(token) || names.contains(token);
            case "NEWNAME":
                return isLetter(token.charAt(0)) && token.length() <= 8 && !RESERVED.contains(token)
                    && !names.contains(token);
            default:
                return due.equals(token);
        }
    }

    /** The FAULT's place: NONE without one. */
    static int fault(String text) {
        List<Way> ways = new ArrayList<>();
        spread(new Way(List.of("TEXT"), 0, List.of(), "", 0), ways);
        for (Token token : tokens(text)) {
            List<Way> next = new ArrayList<>();
            for (Way way : ways) {
                if (!way.stack.isEmpty() && matches(way.stack.get(0), token.text, way.names)) {
                    Way passed = way.replaced("");
                    String fresh = way.stack.get(0).equals("NEWNAME") ? token.text : way.fresh;
                    spread(new Way(passed.stack, passed.open, passed.names, fresh, passed.begun), next);
                }
            }
            if (next.isEmpty()) {
                return token.place;
            }
            ways = new ArrayList<>(new HashSet<>(next));
        }
        return ways.stream().anyMatch(way -> way.stack.isEmpty()) ? -1 : text.length();
    }

    // ---- reading a text without a FAULT ----

    static ModelTerms read(int from, String text) {
        ModelTerms terms = new ModelTerms(from, tokens(text));
        while (terms.at < terms.tokens.size()) {
            terms.readStatement();
        }
        return terms;
    }

    private String peek() {
        return tokens.get(at).text;
    }

    private String take() {
        return tokens.get(at++).text;
    }

    private boolean takeIf(String text) {
        if (at < tokens.size() && peek().equals(text)) {
            at++;
            return true;
        }
        return false;
    }

    private int takeNumber() {
        return new BigInteger(take()).intValueExact();
    }

    private void readStatement() {
        String head = take();
        List<String> words = new ArrayList<>(List.of(head));
        String name = "";
        int a = -1;
        int b = -1;
        if (head.equals("let") || head.equals("loss")) {
            name = take();
            words.add(name);
        } else if (head.equals("price") && isDigit(peek().charAt(0)) || head.matches("feast|mix|heat")) {
            a = takeNumber();
            words.add(String.valueOf(a));
        }
        if (head.matches("feast|mix|heat")) {
            words.add(take());
            b = takeNumber();
            words.add(String.valueOf(b));
        }
        Ex ex = null;
        if (!head.matches("mix|heat")) {
            words.add(take());
            ex = readEx();
            words.addAll(ex.words);
        }
        words.add(take());
        Statement statement = new Statement(head, words, name, a, b, ex);
        statements.add(statement);
        if (head.equals("let")) {
            lets.add(statement);
        }
    }

    private static BigInteger held(BigInteger value) {
        return value.max(MOST.negate()).min(MOST);
    }

    /** The words of a part that must be of a level at least, in brackets if it's below. */
    private static List<String> apart(List<String> words, boolean fits, String open, String close) {
        if (fits) {
            return words;
        }
        List<String> all = new ArrayList<>(List.of(open));
        all.addAll(words);
        all.add(close);
        return all;
    }

    private static List<String> joined(Object... parts) {
        List<String> all = new ArrayList<>();
        for (Object part : parts) {
            if (part instanceof List<?> list) {
                list.forEach(word -> all.add((String) word));
            } else {
                all.add((String) part);
            }
        }
        return all;
    }

    private Ex readEx() {
        if (!takeIf("if")) {
            return readSum();
        }
        Cond cond = readCond();
        take();
        Ex then = readEx();
        take();
        Ex other = readEx();
        return new Ex(0, joined("if", cond.words, "then", then.words, "else", other.words),
            here -> cond.holds.test(here) ? then.value.apply(here) : other.value.apply(here));
    }

    private Ex readSum() {
        Ex sum = readProd();
        while (at < tokens.size() && peek().matches("[+-]")) {
            sum = binary(sum, take(), readProd(), 1);
        }
        return sum;
    }

    private Ex readProd() {
        Ex prod = readAtom();
        while (at < tokens.size() && peek().matches("[*/%]")) {
            prod = binary(prod, take(), readAtom(), 2);
        }
        return prod;
    }

    private static Ex binary(Ex left, String sign, Ex right, int level) {
        List<String> words = joined(apart(left.words, left.level >= level, "(", ")"), sign,
            apart(right.words, right.level > level, "(", ")"));
        return new Ex(level, words, here -> {
            BigInteger a = left.value.apply(here);
            BigInteger b = right.value.apply(here);
            switch (sign) {
                case "+": return held(a.add(b));
                case "-": return held(a.subtract(b));
                case "*": return held(a.multiply(b));
                case "/": return b.signum() == 0 ? BigInteger.ZERO : a.divide(b);
                default: return b.signum() == 0 ? BigInteger.ZERO : a.remainder(b);
            }
        });
    }

    private Ex readAtom() {
        String word = take();
        if (word.equals("(")) {
            Ex ex = readEx();
            take();
            return ex;
        }
        if (word.equals("-")) {
            Ex ex = readAtom();
            return new Ex(3, joined("-", apart(ex.words, ex.level == 3, "(", ")")),
                here -> ex.value.apply(here).negate());
        }
        if (word.equals("min") || word.equals("max")) {
            return readList(word);
        }
        if (isDigit(word.charAt(0))) {
            BigInteger number = new BigInteger(word);
            return new Ex(3, List.of(number.toString()), here -> number);
        }
        for (Statement let : lets) {
            if (let.name.equals(word)) {
                return new Ex(3, List.of(word), let.ex.value);
            }
        }
        return new Ex(3, List.of(word), here -> BigInteger.valueOf(here.getOrDefault(word, 0)));
    }

    private Ex readList(String word) {
        take();
        List<Ex> parts = new ArrayList<>();
        List<String> words = joined(word, "(");
        do {
            parts.add(readEx());
            words.addAll(parts.get(parts.size() - 1).words);
            words.add(take());
        } while (words.get(words.size() - 1).equals(","));
        return new Ex(3, words, here -> parts.stream().map(part -> part.value.apply(here))
            .reduce((a, b) -> word.equals("min") ? a.min(b) : a.max(b)).orElseThrow());
    }

    private Cond readCond() {
        Cond cond = readAll();
        while (takeIf("or")) {
            Cond left = cond;
            Cond right = readAll();
            cond = new Cond(0, joined(left.words, "or", right.words),
                here -> left.holds.test(here) | right.holds.test(here));
        }
        return cond;
    }

    private Cond readAll() {
        Cond all = readTest();
        while (takeIf("and")) {
            Cond left = all;
            Cond right = readTest();
            all = new Cond(1, joined(apart(left.words, left.level >= 1, "[", "]"), "and",
                apart(right.words, right.level >= 1, "[", "]")),
                here -> left.holds.test(here) & right.holds.test(here));
        }
        return all;
    }

    private Cond readTest() {
        if (takeIf("not")) {
            Cond test = readTest();
            return new Cond(2, joined("not", apart(test.words, test.level == 2, "[", "]")),
                here -> !test.holds.test(here));
        }
        if (takeIf("[")) {
            Cond cond = readCond();
            take();
            return cond;
        }
        Ex left = readSum();
        String sign = take();
        Ex right = readSum();
        return new Cond(2, joined(apart(left.words, left.level > 0, "(", ")"), sign,
            apart(right.words, right.level > 0, "(", ")")), here -> {
                int order = left.value.apply(here).compareTo(right.value.apply(here));
                return sign.equals("<") ? order < 0 : sign.equals(">") ? order > 0 : order == 0;
            });
    }

    // ---- what stands in them ----

    String written() {
        StringBuilder text = new StringBuilder();
        String ahead = ";";
        for (Statement statement : statements) {
            for (String word : statement.words) {
                if (Character.isLetterOrDigit(ahead.charAt(0)) && Character.isLetterOrDigit(word.charAt(0))) {
                    text.append(' ');
                }
                text.append(word);
                ahead = word;
            }
        }
        return text.toString();
    }

    /** The last statement of a head that fits: null without. */
    Statement last(Predicate<Statement> fits) {
        Statement last = null;
        for (Statement statement : statements) {
            if (fits.test(statement)) {
                last = statement;
            }
        }
        return last;
    }
}
