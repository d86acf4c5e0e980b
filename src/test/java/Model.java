import java.math.BigInteger;
import java.util.ArrayList;
import java.util.Comparator;
import java.util.HashMap;
import java.util.List;
import java.util.Map;
import java.util.function.Consumer;

/** The pool as the document tells it, in its plainest form and written apart from the class. */
final class Model {
    record Sort(int grams, int kind, int dry, int life, int worth) {
    }

    record House(int kind, int x, int y, int noon) {
    }

    record Sheet(int sort, int lot, int came) {
    }

    static final class Move {
        int number, sheet, day, place, told, bag;
        int undone = Integer.MAX_VALUE;

        boolean known(int k) {
            return told <= k && !(undone <= k);
        }
    }

    record Bag(int house, int day, int told) {
    }

    record Heat(int day, int degrees, int minutes, int told) {
    }

    record Count(int house, int sort, int day, int n, int told) {
    }

    record Washer(int load, int minutes, int change) {
    }

    record Job(int sort, int pieces, int due) {
    }

    int today;
    final List<Sort> sorts = new ArrayList<>();
    final List<House> houses = new ArrayList<>();
    final List<Sheet> sheets = new ArrayList<>();
    final List<Move> moves = new ArrayList<>();
    final List<Bag> bags = new ArrayList<>();
    final List<Heat> heats = new ArrayList<>();
    final List<Count> counts = new ArrayList<>();
    final List<Washer> washers = new ArrayList<>();
    final List<Job> jobs = new ArrayList<>();
    final List<ModelTerms> terms = new ArrayList<>();
    final int[] missed = {1, 1, 1, 1};
    int beyond = 100;
    int dryers = 1;
    final Map<List<Integer>, Integer> wants = new HashMap<>();
    final StringBuilder tape = new StringBuilder();
    int fault = -1;
    int lotPieces = 10, lotCoins = 50, keep = 1, back = 3;

    private static boolean in(int n, int a, int b) {
        return n >= a && n <= b;
    }

    private static boolean isDay(int d) {
        return in(d, 0, 1000);
    }

    private boolean isSort(int s) {
        return in(s, 0, sorts.size() - 1);
    }

    private boolean isHouse(int h) {
        return in(h, 0, houses.size() - 1);
    }

    private boolean isSheet(int s) {
        return in(s, 0, sheets.size() - 1);
    }

    private boolean isPlace(int p) {
        return in(p, 0, 4) || in(p, 10, 9 + houses.size());
    }

    int sort(int grams, int kind, int dry, int life, int worth) {
        if (!in(grams, 1, 60) || !in(kind, 0, 3) || !in(dry, 1, 90) || !in(life, 1, 250) || !in(worth, 1, 1000)
            || sorts.size() == 6) {
            return -1;
        }
        sorts.add(new Sort(grams, kind, dry, life, worth));
        return sorts.size() - 1;
    }

    int house(int kind, int x, int y, int noon) {
        if (!in(kind, 0, 3) || !in(x, 0, 99) || !in(y, 0, 99) || !in(noon, 0, 1440) || houses.size() == 8) {
            return -1;
        }
        houses.add(new House(kind, x, y, noon));
        return houses.size() - 1;
    }

    int sheet(int sort, int lot) {
        if (!isSort(sort) || !in(lot, 0, 3) || sheets.size() == 150) {
            return -1;
        }
        sheets.add(new Sheet(sort, lot, today));
        return sheets.size() - 1;
    }

    boolean day(int d) {
        if (d <= today || d > 1000) {
            return false;
        }
        today = d;
        return true;
    }

    private int put(int sheet, int day, int place, int bag) {
        Move move = new Move();
        move.number = moves.size();
        move.sheet = sheet;
        move.day = day;
        move.place = place;
        move.told = today;
        move.bag = bag;
        moves.add(move);
        return move.number;
    }

    int move(int sheet, int day, int place) {
        if (!isSheet(sheet) || !in(day, sheets.get(sheet).came, today) || !isPlace(place) || moves.size() == 600) {
            return -1;
        }
        return put(sheet, day, place, -1);
    }

    boolean undo(int move) {
        if (!in(move, 0, moves.size() - 1) || moves.get(move).undone != Integer.MAX_VALUE) {
            return false;
        }
        moves.get(move).undone = today;
        return true;
    }

    private List<Move> history(int sheet, int d, int k) {
        List<Move> history = new ArrayList<>();
        for (Move move : moves) {
            if (move.sheet == sheet && move.known(k) && move.day <= d) {
                history.add(move);
            }
        }
        history.sort(Comparator.comparingInt((Move move) -> move.day).thenComparingInt(move -> move.number));
        return history;
    }

    private boolean come(int sheet, int d, int k) {
        return sheets.get(sheet).came <= d && sheets.get(sheet).came <= k;
    }

    private boolean asked(int sheet, int d, int k) {
        return isSheet(sheet) && isDay(d) && isDay(k) && come(sheet, d, k);
    }

    private int placeOf(int sheet, int d, int k) {
        List<Move> history = history(sheet, d, k);
        return history.isEmpty() ? 0 : history.get(history.size() - 1).place;
    }

    int where(int sheet, int d, int k) {
        return asked(sheet, d, k) ? placeOf(sheet, d, k) : -1;
    }

    int since(int sheet, int d, int k) {
        if (!asked(sheet, d, k)) {
            return -1;
        }
        List<Move> history = history(sheet, d, k);
        return history.isEmpty() ? sheets.get(sheet).came : history.get(history.size() - 1).day;
    }

    int washes(int sheet, int d, int k) {
        if (!asked(sheet, d, k)) {
            return -1;
        }
        List<Move> history = history(sheet, d, k);
        int n = 0;
        for (int i = 1; i < history.size(); i++) {
            if (history.get(i).place == 0 && history.get(i - 1).place == 2) {
                n++;
            }
        }
        return n;
    }

    int nights(int sheet, int house, int d, int k) {
        if (!asked(sheet, d, k) || !isHouse(house)) {
            return -1;
        }
        int n = 0;
        for (int x = sheets.get(sheet).came; x <= d; x++) {
            if (placeOf(sheet, x, k) == 10 + house) {
                n++;
            }
        }
        return n;
    }

    int many(int place, int sort, int d, int k) {
        if (!isPlace(place) || !isSort(sort) || !isDay(d) || !isDay(k)) {
            return -1;
        }
        int n = 0;
        for (int s = 0; s < sheets.size(); s++) {
            if (sheets.get(s).sort == sort && where(s, d, k) == place) {
                n++;
            }
        }
        return n;
    }

    int heat(int day, int degrees, int minutes) {
        if (!in(day, 0, today) || !in(degrees, 0, 120) || !in(minutes, 0, 200) || heats.size() == 60) {
            return -1;
        }
        heats.add(new Heat(day, degrees, minutes, today));
        return heats.size();
    }

    private ModelTerms inForce(int day) {
        ModelTerms found = null;
        for (ModelTerms one : terms) {
            if (one.from <= day) {
                found = one;
            }
        }
        return found;
    }

    int proven(int d, int k) {
        if (!isDay(d) || !isDay(k)) {
            return -1;
        }
        ModelTerms force = inForce(d);
        ModelTerms.Statement need = force == null ? null : force.last(s -> s.head().equals("heat"));
        int degrees = need == null ? 0 : need.a();
        int minutes = need == null ? 0 : need.b();
        for (Heat heat : heats) {
            if (heat.day == d && heat.told <= k && heat.degrees >= degrees && heat.minutes >= minutes) {
                return 1;
            }
        }
        return 0;
    }

    int unsafe(int k, int known) {
        if (!isDay(known)) {
            return -1;
        }
        List<Integer> found = new ArrayList<>();
        for (int s = 0; s < sheets.size(); s++) {
            int place = where(s, today, known);
            int washed = -1;
            for (Move move : history(s, today, known)) {
                washed = move.place == 2 ? move.day : washed;
            }
            if ((place == 0 || place >= 10) && washed >= 0 && proven(washed, known) == 0) {
                found.add(s);
            }
        }
        return in(k, 0, found.size() - 1) ? found.get(k) : -1;
    }

    boolean lot(int lot, int n) {
        if (!in(lot, 0, 3) || !in(n, 0, 15)) {
            return false;
        }
        missed[lot] = n;
        return true;
    }

    boolean beyond(int n) {
        if (!in(n, 2, 10000)) {
            return false;
        }
        beyond = n;
        return true;
    }

    int bag(int house, int day) {
        if (!isHouse(house) || !in(day, 0, today) || bags.size() == 60) {
            return -1;
        }
        bags.add(new Bag(house, day, today));
        return bags.size() - 1;
    }

    int read(int bag, int sheet) {
        if (!in(bag, 0, bags.size() - 1) || !isSheet(sheet)) {
            return -1;
        }
        for (Move move : moves) {
            if (move.bag == bag && move.sheet == sheet && move.undone == Integer.MAX_VALUE) {
                return -2;
            }
        }
        if (sheets.get(sheet).came > bags.get(bag).day) {
            return -3;
        }
        return moves.size() == 600 ? -4 : put(sheet, bags.get(bag).day, 1, bag);
    }

    int misses(int sheet, int d, int k) {
        if (!asked(sheet, d, k)) {
            return -1;
        }
        int place = placeOf(sheet, d, k);
        int n = 0;
        for (Bag bag : bags) {
            if (bag.house + 10 == place && bag.told <= k && bag.day > since(sheet, d, k) && bag.day <= d) {
                n++;
            }
        }
        return Math.min(12, n);
    }

    int doubt(int sheet, int d, int k) {
        int m = misses(sheet, d, k);
        if (m < 0) {
            return -1;
        }
        BigInteger left = BigInteger.valueOf(missed[sheets.get(sheet).lot]).pow(m).multiply(BigInteger.valueOf(beyond));
        return left.compareTo(BigInteger.valueOf(16).pow(m)) < 0 ? 1 : 0;
    }

    int lost(int house, int sort, int d, int k) {
        if (!isHouse(house) || !isSort(sort) || !isDay(d) || !isDay(k)) {
            return -1;
        }
        int n = 0;
        for (int s = 0; s < sheets.size(); s++) {
            if (sheets.get(s).sort == sort && where(s, d, k) == 10 + house && doubt(s, d, k) == 1) {
                n++;
            }
        }
        return n;
    }

    int counted(int house, int sort, int day, int n) {
        if (!isHouse(house) || !isSort(sort) || !in(day, 0, today) || !in(n, 0, 1000) || counts.size() == 60) {
            return -1;
        }
        counts.add(new Count(house, sort, day, n, today));
        return counts.size();
    }

    int shortOf(int house, int sort, int d, int k) {
        if (!isHouse(house) || !isSort(sort) || !isDay(d) || !isDay(k)) {
            return -1;
        }
        int most = 0;
        for (Count count : counts) {
            if (count.house == house && count.sort == sort && count.told <= k && count.day <= d) {
                most = Math.max(most, many(10 + house, sort, count.day, k) - count.n);
            }
        }
        return most;
    }

    int load(int house, int weight, int p, int q, int what) {
        if (!isHouse(house) || !in(weight, 0, 9000) || !in(p, 0, q) || !in(q, p, 200)
            || !in(what, -1, 2 * sorts.size() - 1)) {
            return -2;
        }
        int most = weight * 100 / (100 + p);
        int least = weight * 100 / (100 + q) + (weight * 100 % (100 + q) > 0 ? 1 : 0);
        List<int[]> ways = new ArrayList<>();
        fill(new int[sorts.size()], 0, house, least, most, ways);
        if (ways.isEmpty()) {
            return -1;
        }
        if (what == -1) {
            return Math.min(1_000_000, ways.size());
        }
        int answer = ways.get(0)[what / 2];
        for (int[] way : ways) {
            answer = what % 2 == 0 ? Math.min(answer, way[what / 2]) : Math.max(answer, way[what / 2]);
        }
        return answer;
    }

    private void fill(int[] way, int sort, int house, int least, int most, List<int[]> ways) {
        if (sort == way.length) {
            int grams = 0;
            for (int s = 0; s < way.length; s++) {
                grams += way[s] * sorts.get(s).grams;
            }
            if (in(grams, least, most)) {
                ways.add(way.clone());
            }
            return;
        }
        int there = many(10 + house, sort, today, today);
        for (int n = 0; n <= there; n++) {
            way[sort] = n;
            fill(way, sort + 1, house, least, most, ways);
        }
    }

    int feed(int... numbers) {
        if (tape.length() + 20 > 400) {
            return -1;
        }
        for (int number : numbers) {
            tape.append((char) (number >>> 24)).append((char) (number >>> 16 & 255));
            tape.append((char) (number >>> 8 & 255)).append((char) (number & 255));
        }
        return tape.length();
    }

    int terms(int n) {
        if (n < 0 || n > tape.length()) {
            return -2;
        }
        if (terms.size() == 8) {
            return -3;
        }
        String text = tape.substring(0, n);
        tape.setLength(0);
        fault = ModelTerms.fault(text);
        if (fault >= 0) {
            return -1;
        }
        terms.add(ModelTerms.read(today, text));
        return terms.size() - 1;
    }

    int written(int number, int i) {
        if (!in(number, 0, terms.size() - 1)) {
            return -1;
        }
        String text = terms.get(number).written();
        return i == -1 ? text.length() : in(i, 0, text.length() - 1) ? text.charAt(i) : -1;
    }

    // ---- what holds ----

    private Map<String, Integer> sortHere(int sort, int d) {
        Map<String, Integer> here = new HashMap<>();
        here.put("day", d);
        here.put("sort", sort);
        here.put("life", sorts.get(sort).life);
        here.put("worth", sorts.get(sort).worth);
        here.put("grams", sorts.get(sort).grams);
        return here;
    }

    private Map<String, Integer> sheetHere(int sheet, int d, int k) {
        Map<String, Integer> here = sortHere(sheets.get(sheet).sort, d);
        here.put("washes", washes(sheet, d, k));
        here.put("age", d - sheets.get(sheet).came);
        return here;
    }

    private Map<String, Integer> stayHere(int sheet, int d, int k) {
        Map<String, Integer> here = sheetHere(sheet, d, k);
        int place = where(sheet, d, k);
        if (place >= 10) {
            here.put("kind", houses.get(place - 10).kind);
            here.put("days", d - since(sheet, d, k));
            here.put("misses", misses(sheet, d, k));
        }
        return here;
    }

    long value(int sheet, int k) {
        ModelTerms force = inForce(today);
        if (!isSheet(sheet) || force == null || !in(k, 0, force.lets.size() - 1)) {
            return -2_000_000_000_000L;
        }
        return force.lets.get(k).ex().value().apply(stayHere(sheet, today, today)).longValueExact();
    }

    private long priceOf(int sheet, int house, int d, int k) {
        int sort = sheets.get(sheet).sort;
        ModelTerms force = inForce(d);
        ModelTerms.Statement statement = null;
        if (force != null) {
            statement = force.last(s -> s.head().equals("price") && s.a() == sort);
            if (statement == null) {
                statement = force.last(s -> s.head().equals("price") && s.a() == -1);
            }
        }
        if (statement == null) {
            return sorts.get(sort).worth / 20;
        }
        Map<String, Integer> here = sheetHere(sheet, d, k);
        here.put("kind", houses.get(house).kind);
        return Math.max(0, statement.ex().value().apply(here).longValueExact());
    }

    long price(int sheet, int house) {
        return isSheet(sheet) && isHouse(house) ? priceOf(sheet, house, today, today) : -1;
    }

    long bill(int house, int from, int to, int k) {
        if (!isHouse(house) || !isDay(from) || !isDay(to) || !isDay(k)) {
            return -1;
        }
        long sum = 0;
        for (Move move : moves) {
            if (move.place == 10 + house && move.known(k) && in(move.day, from, to)) {
                sum += priceOf(move.sheet, house, move.day, k);
            }
        }
        return sum;
    }

    long part(int house, int who, int d, int k) {
        if (!isHouse(house) || !in(who, 0, 2) || !isDay(d) || !isDay(k)) {
            return -1;
        }
        long sum = 0;
        for (int s = 0; s < sheets.size(); s++) {
            if (where(s, d, k) == 10 + house && doubt(s, d, k) == 1) {
                sum += parts(s, d, k)[who].longValueExact();
            }
        }
        return sum;
    }

    private BigInteger[] parts(int sheet, int d, int k) {
        Sort sort = sorts.get(sheets.get(sheet).sort);
        long lost = (long) sort.worth * Math.max(0, sort.life - washes(sheet, d, k)) / sort.life;
        String[] parties = {"house", "works", "pool"};
        BigInteger[] shares = {BigInteger.ONE, BigInteger.ZERO, BigInteger.ZERO};
        ModelTerms force = inForce(d);
        for (int i = 0; i < 3 && force != null; i++) {
            String party = parties[i];
            ModelTerms.Statement told = force.last(s -> s.head().equals("loss") && s.name().equals(party));
            if (told != null) {
                shares[i] = told.ex().value().apply(stayHere(sheet, d, k)).max(BigInteger.ZERO);
            }
        }
        BigInteger all = shares[0].add(shares[1]).add(shares[2]);
        if (all.signum() == 0) {
            return new BigInteger[] {BigInteger.ZERO, BigInteger.ZERO, BigInteger.valueOf(lost)};
        }
        BigInteger[] parts = new BigInteger[3];
        List<Integer> byRest = new ArrayList<>(List.of(0, 1, 2));
        BigInteger left = BigInteger.valueOf(lost);
        for (int i = 0; i < 3; i++) {
            parts[i] = BigInteger.valueOf(lost).multiply(shares[i]).divide(all);
            left = left.subtract(parts[i]);
        }
        byRest.sort(Comparator.comparing((Integer i) -> BigInteger.valueOf(lost).multiply(shares[i]).mod(all)).reversed());
        for (int i = 0; i < left.intValueExact(); i++) {
            parts[byRest.get(i)] = parts[byRest.get(i)].add(BigInteger.ONE);
        }
        return parts;
    }

    int due(int k) {
        List<Integer> found = new ArrayList<>();
        ModelTerms force = inForce(today);
        ModelTerms.Statement retire = force == null ? null : force.last(s -> s.head().equals("retire"));
        for (int s = 0; s < sheets.size(); s++) {
            if (where(s, today, today) == 0) {
                boolean isDue = retire == null
                    ? washes(s, today, today) >= sorts.get(sheets.get(s).sort).life
                    : retire.ex().value().apply(stayHere(s, today, today)).signum() > 0;
                if (isDue) {
                    found.add(s);
                }
            }
        }
        return in(k, 0, found.size() - 1) ? found.get(k) : -1;
    }

    boolean want(int house, int sort, int weekday, int pieces) {
        if (!isHouse(house) || !isSort(sort) || !in(weekday, 0, 6) || !in(pieces, 0, 50)) {
            return false;
        }
        wants.put(List.of(house, sort, weekday), pieces);
        return true;
    }

    int wanted(int sort, int day) {
        if (!isSort(sort) || !in(day, 0, 1010)) {
            return -1;
        }
        ModelTerms force = inForce(day);
        ModelTerms.Statement feast = null;
        if (force != null) {
            for (ModelTerms.Statement statement : force.statements) {
                if (feast == null && statement.head().equals("feast") && in(day, statement.a(), statement.b())) {
                    feast = statement;
                }
            }
        }
        int sum = 0;
        for (int h = 0; h < houses.size(); h++) {
            BigInteger n = BigInteger.valueOf(wants.getOrDefault(List.of(h, sort, day % 7), 0));
            if (feast != null) {
                Map<String, Integer> here = sortHere(sort, day);
                here.put("kind", houses.get(h).kind);
                n = n.multiply(feast.ex().value().apply(here)).divide(BigInteger.valueOf(100));
                n = n.max(BigInteger.ZERO).min(BigInteger.valueOf(1000));
            }
            sum += n.intValueExact();
        }
        return sum;
    }

    // ---- plans ----

    int washer(int load, int minutes, int change) {
        if (!in(load, 1, 5000) || !in(minutes, 1, 200) || !in(change, 0, 100) || washers.size() == 3) {
            return -1;
        }
        washers.add(new Washer(load, minutes, change));
        return washers.size() - 1;
    }

    boolean dryers(int n) {
        if (!in(n, 1, 3)) {
            return false;
        }
        dryers = n;
        return true;
    }

    int job(int sort, int pieces, int due) {
        if (!isSort(sort) || !in(pieces, 1, 200) || !in(due, 0, 1440) || jobs.size() == 7) {
            return -1;
        }
        jobs.add(new Job(sort, pieces, due));
        return jobs.size() - 1;
    }

    int clear() {
        int n = jobs.size();
        jobs.clear();
        return n;
    }

    private static void orders(List<Integer> chosen, List<Integer> left, Consumer<List<Integer>> each) {
        if (left.isEmpty()) {
            each.accept(chosen);
        }
        for (int i = 0; i < left.size(); i++) {
            List<Integer> more = new ArrayList<>(chosen);
            List<Integer> rest = new ArrayList<>(left);
            more.add(rest.remove(i));
            orders(more, rest, each);
        }
    }

    private static int unit(int a, int b) {
        return a / b + (a % b > 0 ? 1 : 0);
    }

    private boolean mixed(int a, int b) {
        ModelTerms force = inForce(today);
        return force != null && force.last(s -> s.head().equals("mix")
            && (s.a() == a && s.b() == b || s.a() == b && s.b() == a)) != null;
    }

    /** The minute at which each JOB is dry in an ORDER. */
    private int[] dryAt(List<Integer> order) {
        int[] free = new int[washers.size()];
        int[] last = new int[washers.size()];
        java.util.Arrays.fill(last, -1);
        int[] dryerFree = new int[dryers];
        int[] dry = new int[jobs.size()];
        for (int j : order) {
            Job job = jobs.get(j);
            Sort sort = sorts.get(job.sort);
            int best = -1;
            int bestReady = 0;
            for (int w = 0; w < free.length; w++) {
                Washer washer = washers.get(w);
                int ready = free[w] + washer.minutes * unit(job.pieces * sort.grams, washer.load);
                if (last[w] >= 0 && last[w] != sort.kind && !mixed(last[w], sort.kind)) {
                    ready += washer.change;
                }
                if (best < 0 || ready < bestReady) {
                    best = w;
                    bestReady = ready;
                }
            }
            free[best] = bestReady;
            last[best] = sort.kind;
            int dryer = 0;
            for (int d = 1; d < dryers; d++) {
                if (dryerFree[d] < dryerFree[dryer]) {
                    dryer = d;
                }
            }
            dryerFree[dryer] = Math.max(bestReady, dryerFree[dryer]) + sort.dry * unit(job.pieces, 10);
            dry[j] = dryerFree[dryer];
        }
        return dry;
    }

    int night(int what) {
        if (washers.isEmpty()) {
            return -1;
        }
        List<Integer> all = new ArrayList<>();
        for (int j = 0; j < jobs.size(); j++) {
            all.add(j);
        }
        int[] best = {Integer.MAX_VALUE, Integer.MAX_VALUE};
        List<Integer> bestOrder = new ArrayList<>();
        orders(List.of(), all, order -> {
            int[] dry = dryAt(order);
            int late = 0;
            int end = 0;
            for (int j = 0; j < dry.length; j++) {
                late += dry[j] > jobs.get(j).due ? jobs.get(j).pieces : 0;
                end = Math.max(end, dry[j]);
            }
            if (late < best[0] || late == best[0] && end < best[1]) {
                best[0] = late;
                best[1] = end;
                bestOrder.clear();
                bestOrder.addAll(order);
            }
        });
        if (what == 0 || what == 1) {
            return best[what];
        }
        if (in(what, 10, 9 + jobs.size())) {
            return bestOrder.get(what - 10);
        }
        return in(what, 20, 19 + jobs.size()) ? dryAt(bestOrder)[what - 20] : -1;
    }

    int round(int set, int minute, int what) {
        if (set < 0 || set >= 1 << houses.size() || !in(minute, 0, 1440)) {
            return -1;
        }
        List<Integer> all = new ArrayList<>();
        for (int h = 0; h < houses.size(); h++) {
            if ((set & 1 << h) != 0) {
                all.add(h);
            }
        }
        int[] best = {Integer.MAX_VALUE, Integer.MAX_VALUE};
        List<Integer> bestOrder = new ArrayList<>();
        orders(List.of(), all, order -> {
            int x = 0;
            int y = 0;
            int now = minute;
            int late = 0;
            for (int h : order) {
                House house = houses.get(h);
                now += Math.abs(house.x - x) + Math.abs(house.y - y);
                late += now > house.noon ? 1 : 0;
                now += 5;
                x = house.x;
                y = house.y;
            }
            int minutes = now + x + y - minute;
            if (late < best[0] || late == best[0] && minutes < best[1]) {
                best[0] = late;
                best[1] = minutes;
                bestOrder.clear();
                bestOrder.addAll(order);
            }
        });
        if (what == 0 || what == 1) {
            return best[what];
        }
        return in(what, 10, 9 + all.size()) ? bestOrder.get(what - 10) : -1;
    }

    boolean supply(int pieces, int coins, int keep, int back) {
        if (!in(pieces, 1, 20) || !in(coins, 0, 1000) || !in(keep, 0, 100) || !in(back, 1, 10)) {
            return false;
        }
        this.lotPieces = pieces;
        this.lotCoins = coins;
        this.keep = keep;
        this.back = back;
        return true;
    }

    int buy(int sort, int d, int what) {
        if (!isSort(sort) || !in(d, 1, 10) || !in(what, 0, d)) {
            return -1;
        }
        int[] wanted = new int[d];
        for (int i = 0; i < d; i++) {
            wanted[i] = wanted(sort, today + i);
        }
        int[] best = new int[d + 1];
        best[0] = Integer.MAX_VALUE;
        buyOn(0, many(0, sort, today, today), 0, wanted, new int[d + 1], best);
        return best[0] == Integer.MAX_VALUE ? -1 : best[what];
    }

    private void buyOn(int day, int stock, int coins, int[] wanted, int[] lots, int[] best) {
        if (coins >= best[0]) {
            return;
        }
        if (day == wanted.length) {
            System.arraycopy(lots, 0, best, 0, lots.length);
            best[0] = coins;
            return;
        }
        int there = stock + (day >= back ? wanted[day - back] : 0);
        for (int n = 0; n <= 5; n++) {
            int left = there + n * lotPieces - wanted[day];
            if (left >= 0) {
                lots[1 + day] = n;
                buyOn(day + 1, left, coins + n * lotCoins + keep * left, wanted, lots, best);
            }
        }
    }

    int told(int number, int what) {
        if (in(what, 0, 3) && isSheet(number)) {
            Sheet sheet = sheets.get(number);
            int all = (int) moves.stream().filter(move -> move.sheet == number).count();
            return new int[] {sheet.sort, sheet.lot, sheet.came, all}[what];
        }
        if (in(what, 10, 14) && in(number, 0, moves.size() - 1)) {
            Move move = moves.get(number);
            int undone = move.undone == Integer.MAX_VALUE ? -1 : move.undone;
            return new int[] {move.sheet, move.day, move.place, move.told, undone}[what - 10];
        }
        return -1;
    }

    int count(int what) {
        int undone = (int) moves.stream().filter(move -> move.undone != Integer.MAX_VALUE).count();
        int[] all = {today, sorts.size(), houses.size(), sheets.size(), moves.size(), bags.size(), terms.size(),
            washers.size(), jobs.size(), tape.length(), heats.size(), counts.size(), undone};
        return in(what, 0, 12) ? all[what] : -1;
    }
}
