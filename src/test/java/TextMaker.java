import java.util.ArrayList;
import java.util.List;
import java.util.Random;

/** Makes texts of TERMS by the grammar, at random, and spoils some of them. */
final class TextMaker {
    private static final String[] THINGS = {"washes", "age", "life", "worth", "grams", "sort", "kind", "days",
        "misses", "day"};
    private static final String[] SPOILS = {"let", "price", "=", ";", "(", ")", "[", "]", "if", "then", "else", "min",
        "max", ",", "+", "-", "*", "/", "%", "<", ">", "not", "and", "or", "to", "by", "with", "for", "feast", "heat",
        "mix", "loss", "house", "works", "pool", "retire", "day", "a", "b", "zz", "abcdefgh", "abcdefghi", "7", "0",
        "123456789", "1234567890", "000000001", "0000000001", "A", "#", "\t", "\u00e9", "-", "(", "-", "["};

    private final Random random;
    private final List<String> names = new ArrayList<>();
    private final List<String> tokens = new ArrayList<>();

    TextMaker(Random random) {
        this.random = random;
    }

    private boolean chance(int of) {
        return random.nextInt(of) == 0;
    }

    private String one(String... words) {
        return words[random.nextInt(words.length)];
    }

    private void put(String... words) {
        tokens.addAll(List.of(words));
    }

    String number() {
        switch (random.nextInt(8)) {
            case 0: return "0";
            case 1: return "00" + random.nextInt(20);
            case 2: return String.valueOf(random.nextInt(1_000_000_000));
            case 3: return "999999999";
            case 4: return String.valueOf(random.nextInt(1000));
            default: return String.valueOf(random.nextInt(12));
        }
    }

    /** A text of at most 400 bytes, which may have a FAULT. */
    String text(int statements, int depth) {
        names.clear();
        tokens.clear();
        for (int i = 0; i < statements; i++) {
            statement(depth);
        }
        if (chance(4)) {
            spoil();
        }
        StringBuilder text = new StringBuilder();
        String ahead = ";";
        for (String token : tokens) {
            boolean words = Character.isLetterOrDigit(ahead.charAt(0)) && Character.isLetterOrDigit(token.charAt(0));
            boolean apart = words && Character.isLetter(ahead.charAt(0)) == Character.isLetter(token.charAt(0));
            if (apart || chance(4)) {
                text.append(chance(5) ? "\n" : " ");
            }
            text.append(token);
            ahead = token;
        }
        text.append(chance(4) ? one(" ", "\n", "  ", " \n") : "");
        if (chance(12) && text.length() > 0) {
            text.setLength(random.nextInt(text.length()));
        }
        return text.length() > 400 ? text.substring(0, 400) : text.toString();
    }

    private void spoil() {
        int place = tokens.isEmpty() ? 0 : random.nextInt(tokens.size());
        switch (random.nextInt(3)) {
            case 0:
                tokens.add(place, one(SPOILS));
                break;
            case 1:
                if (!tokens.isEmpty()) {
                    tokens.remove(place);
                }
                break;
            default:
                if (!tokens.isEmpty()) {
                    tokens.set(place, one(SPOILS));
                }
                break;
        }
    }

    private void statement(int depth) {
        switch (random.nextInt(11)) {
            case 0:
            case 1:
            case 9:
                String name = one("a", "b", "c", "d", "xyz", "abcdefgh", "lets", "iff") + (chance(3) ? "" : one("", "q"));
                if (name.length() > 8 || names.contains(name)) {
                    name = "n" + one("a", "b", "c", "d", "e", "f") + one("a", "b", "c", "d", "e", "f");
                }
                put("let", name, "=");
                ex(depth);
                names.add(name);
                break;
            case 2:
                put("price");
                if (!chance(3)) {
                    put(chance(3) ? number() : one("0", "1", "2"));
                }
                put("=");
                ex(depth);
                break;
            case 3:
                put("loss", one("house", "works", "pool"), "=");
                ex(depth);
                break;
            case 4:
                put("retire", "=");
                ex(depth);
                break;
            case 5:
                put("feast", one("0", "3", "10"), "to", one("5", "30", "900"), "by");
                ex(depth);
                break;
            case 6:
                put("mix", one("0", "1", "2", "3"), "with", chance(9) ? number() : one("0", "1", "2", "3"));
                break;
            case 7:
                put("heat", one("0", "30", "60", "90"), "for", one("0", "5", "10", "100"));
                break;
            default:
                put("loss", one("house", "works", "pool"), "=");
                put(one("0", "1", "2", "3", "7"));
                break;
        }
        put(";");
    }

    private void ex(int depth) {
        if (depth > 0 && chance(5)) {
            put("if");
            cond(depth - 1);
            put("then");
            ex(depth - 1);
            put("else");
            ex(depth - 1);
        } else {
            sum(depth);
        }
    }

    private void sum(int depth) {
        prod(depth);
        while (chance(3)) {
            put(one("+", "-"));
            prod(depth);
        }
    }

    private void prod(int depth) {
        atom(depth);
        while (chance(3)) {
            put(one("*", "/", "%"));
            atom(depth);
        }
    }

    private void atom(int depth) {
        int way = depth <= 0 ? random.nextInt(3) : random.nextInt(6);
        switch (way) {
            case 0:
                put(number());
                break;
            case 1:
                put(one(THINGS));
                break;
            case 2:
                put(names.isEmpty() ? "day" : names.get(random.nextInt(names.size())));
                break;
            case 3:
                put(one("min", "max"), "(");
                ex(depth - 1);
                while (chance(2)) {
                    put(",");
                    ex(depth - 1);
                }
                put(")");
                break;
            case 4:
                put("(");
                ex(depth - 1);
                put(")");
                break;
            default:
                put("-");
                atom(depth - 1);
                break;
        }
    }

    private void cond(int depth) {
        all(depth);
        while (chance(3)) {
            put("or");
            all(depth);
        }
    }

    private void all(int depth) {
        test(depth);
        while (chance(3)) {
            put("and");
            test(depth);
        }
    }

    private void test(int depth) {
        if (depth > 0 && chance(3)) {
            put("not");
            test(depth - 1);
        } else if (depth > 0 && chance(3)) {
            put("[");
            cond(depth - 1);
            put("]");
        } else {
            sum(depth - 1);
            put(one("<", ">", "="));
            sum(depth - 1);
        }
    }
}
