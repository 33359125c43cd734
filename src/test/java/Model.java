import java.util.ArrayList;
import java.util.HashMap;
import java.util.List;
import java.util.Map;
import java.util.regex.Matcher;
import java.util.regex.Pattern;

/** The document once more, word for word and with no care for speed: what OldNews is compared with. */
final class Model {
    static final int NONE = -1000000, BAD = -1000001, STATE = -1000002, FULL = -1000003;

    static final class Fault extends RuntimeException {
        private static final long serialVersionUID = 1;
        final int number, place;

        Fault(int number, int place) {
            this.number = number;
            this.place = place;
        }
    }

    static final class Told implements Cloneable {
        String law;
        int last, lost, spread, cost;
        List<int[]> points = new ArrayList<>();
        List<String> ways = new ArrayList<>();
        List<Integer> ns = new ArrayList<>(), cs = new ArrayList<>(), uses = new ArrayList<>();
        List<List<Integer>> seen = new ArrayList<>();

        int v(int age) {
            int a = law.equals("fresh") ? Math.max(0, last - age) : age;
            if (a <= points.get(0)[0]) {
                return points.get(0)[1];
            }
            for (int i = 0; i + 1 < points.size(); i++) {
                int[] p = points.get(i), q = points.get(i + 1);
                if (p[0] <= a && a <= q[0]) {
                    return p[1] + (q[1] - p[1]) * (a - p[0]) / (q[0] - p[0]);
                }
            }
            return points.get(points.size() - 1)[1];
        }

        int worth(int y, int m) {
            return m > 6 ? 0 : v(y) / (m > 1 ? m : 1);
        }

        Told copy() {
            try {
                return (Told) clone();
            } catch (CloneNotSupportedException e) {
                throw new IllegalStateException(e);
            }
        }
    }

    /** How a land is. Keys of the maps: a keeper and a piece, "k/p". */
    static final class State {
        Told told;
        int year;
        Map<String, Integer> have = new HashMap<>();
        Map<String, Integer> soldIn = new HashMap<>();
        Map<Integer, Integer> earned = new HashMap<>(), know = new HashMap<>(), first = new HashMap<>();
        long x;

        State(Told told) {
            this.told = told;
            for (int p = 0; p < told.seen.size(); p++) {
                for (int k : told.seen.get(p)) {
                    have.put(k + "/" + p, told.cs.get(k));
                }
            }
        }

        State copy() {
            State s = new State(told);
            s.year = year;
            s.have = new HashMap<>(have);
            s.soldIn = new HashMap<>(soldIn);
            s.earned = new HashMap<>(earned);
            s.know = new HashMap<>(know);
            s.first = new HashMap<>(first);
            return s;
        }

        int has(int k, int p) {
            return have.getOrDefault(k + "/" + p, 0);
        }

        boolean sold(int k, int p) {
            return soldIn.containsKey(k + "/" + p);
        }

        int keepersHaving(int p) {
            int m = 0;
            for (int k = 0; k < told.ways.size(); k++) {
                m += has(k, p) >= 1 ? 1 : 0;
            }
            return m;
        }

        int had(int p) {
            return keepersHaving(p) + know.getOrDefault(p, 0);
        }

        int pieces(int k) {
            int sum = 0;
            for (int p = 0; p < told.uses.size(); p++) {
                sum += has(k, p);
            }
            return sum;
        }

        boolean sells(int k, int p) {
            boolean asAge = year >= told.ns.get(k);
            switch (told.ways.get(k)) {
                case "now":
                    return true;
                case "silent":
                    return false;
                case "age":
                    return asAge;
                case "copies":
                    return asAge || has(k, p) == 1;
                default:
                    for (int o = 0; o < told.ways.size(); o++) {
                        boolean waits = List.of("age", "watch", "copies").contains(told.ways.get(o));
                        if (o != k && waits && has(o, p) > 0 && !sold(o, p) && told.ns.get(o) <= year + 1) {
                            return true;
                        }
                    }
                    return asAge;
            }
        }

        void passYear() {
            int keepers = told.ways.size(), news = told.uses.size();
            for (int k = 0; k < keepers; k++) {
                for (int p = 0; p < news; p++) {
                    if (has(k, p) > 0 && !sold(k, p) && sells(k, p)) {
                        earned.merge(k, told.worth(year, had(p)), Integer::sum);
                        soldIn.put(k + "/" + p, year);
                        first.putIfAbsent(p, year);
                    }
                }
            }
            for (int k = 0; k < keepers; k++) {
                for (int p = 0; p < news; p++) {
                    for (int one = has(k, p); one > 0; one--) {
                        x = x * 16807 % 2147483647L;
                        if (x % 1000 < told.lost) {
                            have.merge(k + "/" + p, -1, Integer::sum);
                        }
                    }
                }
            }
            for (int p = 0; p < news; p++) {
                if (first.containsKey(p)) {
                    know.merge(p, told.spread, Integer::sum);
                }
                for (int k = 0; k < keepers; k++) {
                    for (int one = 2; one <= has(k, p); one++) {
                        earned.merge(k, -told.cost, Integer::sum);
                    }
                }
            }
            year++;
        }
    }

    /** Tokens of a text, each with its first byte; the last one is the end. */
    static final class Tokens {
        final List<String> texts = new ArrayList<>();
        final List<Integer> places = new ArrayList<>();
        int at;

        Tokens(String tape) {
            Matcher m = Pattern.compile("[ \\n]+|([a-z]+|[0-9]+|[^ \\n])", Pattern.DOTALL).matcher(tape);
            while (m.find()) {
                if (m.group(1) != null) {
                    texts.add(m.group());
                    places.add(m.start());
                }
            }
            texts.add("");
            places.add(tape.length());
        }

        boolean is(String text) {
            return texts.get(at).equals(text);
        }

        void need(String text) {
            if (!is(text)) {
                throw fault(1);
            }
            at++;
        }

        Fault fault(int number) {
            return new Fault(number, places.get(at));
        }

        String oneOf(String... names) {
            for (String name : names) {
                if (is(name)) {
                    at++;
                    return name;
                }
            }
            throw fault(1);
        }

        boolean isNumber() {
            return texts.get(at).matches("[0-9]{1,4}");
        }

        int number(int least, int most) {
            if (!isNumber()) {
                throw fault(1);
            }
            int v = Integer.parseInt(texts.get(at));
            if (v < least || v > most) {
                throw fault(2);
            }
            at++;
            return v;
        }
    }

    static Told read(String tape) {
        Tokens t = new Tokens(tape);
        Told told = new Told();
        t.need("law");
        told.law = t.oneOf("old", "fresh");
        told.last = t.number(1, 60);
        t.need(";");
        do {
            if (t.is("worth") && told.points.size() == 8) {
                throw t.fault(3);
            }
            t.need("worth");
            int least = told.points.isEmpty() ? 0 : told.points.get(told.points.size() - 1)[0] + 1;
            told.points.add(new int[] {t.number(least, 60), t.number(0, 9999)});
            t.need(";");
        } while (t.is("worth"));
        t.need("chest");
        told.lost = t.number(0, 500);
        told.spread = t.number(0, 20);
        told.cost = t.number(0, 999);
        t.need(";");
        do {
            if (t.is("keeper") && told.ways.size() == 6) {
                throw t.fault(3);
            }
            t.need("keeper");
            told.ways.add(t.oneOf("now", "age", "watch", "copies", "silent"));
            told.ns.add(t.number(0, 60));
            told.cs.add(t.number(1, 9));
            t.need(";");
        } while (t.is("keeper"));
        while (!t.is("")) {
            if (t.is("news") && told.uses.size() == 8) {
                throw t.fault(3);
            }
            t.need("news");
            told.uses.add(t.number(0, 999));
            List<Integer> seers = new ArrayList<>();
            while (t.isNumber()) {
                seers.add(t.number(0, told.ways.size() - 1));
            }
            told.seen.add(seers);
            t.need(";");
        }
        return told;
    }

    final int[][] rows = new int[8][];
    final int[] lanes = new int[8];
    final StringBuilder tape = new StringBuilder();
    final State[] images = new State[2];
    List<Integer> trace = new ArrayList<>();
    State s;
    int fault, status;

    int found(int number) {
        status = number;
        return -1000010 - number;
    }

    int fine(int answer) {
        status = 0;
        return answer;
    }

    static boolean in(long x, long least, long most) {
        return least <= x && x <= most;
    }

    boolean isKeeper(int k) {
        return s != null && in(k, 0, s.told.ways.size() - 1);
    }

    boolean isPiece(int p) {
        return s != null && in(p, 0, s.told.uses.size() - 1);
    }

    int row(int row, int lane, int n) {
        if (!in(row, 0, 7) || !in(lane, 0, 2) || n > 40) {
            return BAD;
        }
        if (n < 0) {
            return found(4);
        }
        rows[row] = new int[n];
        lanes[row] = lane;
        return fine(n);
    }

    int set(int row, int i, int v) {
        if (!in(row, 0, 7)) {
            return BAD;
        }
        if (rows[row] == null) {
            return found(1);
        }
        if (!in(i, 0, rows[row].length - 1)) {
            return found(2);
        }
        rows[row][i] = lanes[row] == 0 ? (byte) v : lanes[row] == 1 ? (short) v : v;
        return fine(rows[row][i]);
    }

    int copy(int a, int i, int b, int j, int n) {
        if (!in(a, 0, 7) || !in(b, 0, 7)) {
            return BAD;
        }
        if (rows[a] == null || rows[b] == null) {
            return found(1);
        }
        if (lanes[a] != lanes[b]) {
            return found(5);
        }
        if (i < 0 || j < 0 || n < 0 || (long) i + n > rows[a].length || (long) j + n > rows[b].length) {
            return found(2);
        }
        int[] ahead = rows[a].clone();
        for (int k = 0; k < n; k++) {
            rows[b][j + k] = ahead[i + k];
        }
        return fine(n);
    }

    int drop(int row) {
        if (!in(row, 0, 7)) {
            return BAD;
        }
        if (rows[row] == null) {
            return found(1);
        }
        int n = rows[row].length;
        rows[row] = null;
        return fine(n);
    }

    int feed(long w, int n) {
        if (!in(n, 1, 8)) {
            return BAD;
        }
        if (tape.length() + n > 500) {
            return FULL;
        }
        for (int i = n - 1; i >= 0; i--) {
            tape.append((char) (w >>> (8 * i) & 255));
        }
        return tape.length();
    }

    int land() {
        String text = tape.toString();
        tape.setLength(0);
        try {
            s = new State(read(text));
            return s.told.ways.size();
        } catch (Fault f) {
            fault = f.number;
            return -1000100 - f.place;
        }
    }

    int fault() {
        return fault;
    }

    int value(int age) {
        return s == null ? STATE : !in(age, 0, 999) ? BAD : s.told.v(age);
    }

    int go(int n, int seed) {
        if (s == null) {
            return STATE;
        }
        if (!in(n, 1, 60) || !in(seed, 1, 999999)) {
            return BAD;
        }
        s.x = seed;
        for (int i = 0; i < n; i++) {
            s.passYear();
        }
        return s.year;
    }

    int tell(int keeper, int piece, int other) {
        if (!isKeeper(keeper) || !isPiece(piece) || !isKeeper(other) || keeper == other) {
            return BAD;
        }
        if (s.has(keeper, piece) == 0) {
            return STATE;
        }
        if (s.has(other, piece) == 9) {
            return FULL;
        }
        return s.have.merge(other + "/" + piece, 1, Integer::sum);
    }

    int keeper(int keeper, int what) {
        if (!isKeeper(keeper)) {
            return BAD;
        }
        if (what == 0) {
            return s.earned.getOrDefault(keeper, 0);
        }
        if (what == 1) {
            return s.pieces(keeper);
        }
        if (what == 2) {
            int bits = 0;
            for (int p = 0; p < s.told.uses.size(); p++) {
                bits |= s.sold(keeper, p) ? 1 << p : 0;
            }
            return bits;
        }
        return what >= 10 && isPiece(what - 10) ? s.has(keeper, what - 10) : BAD;
    }

    int piece(int piece, int what) {
        if (!isPiece(piece) || !in(what, 0, 4)) {
            return BAD;
        }
        return new int[] {s.told.uses.get(piece), s.keepersHaving(piece), s.know.getOrDefault(piece, 0),
            s.first.getOrDefault(piece, NONE), s.told.worth(s.year, s.had(piece))}[what];
    }

    int kept(int c) {
        int r = 1000;
        for (int i = 0; i < c; i++) {
            r = r * s.told.lost / 1000;
        }
        return 1000 - r;
    }

    int waiting(int t, int c) {
        return aloneValue(t + 1, c) * kept(c) / 1000 - s.told.cost * (c - 1);
    }

    int aloneValue(int t, int c) {
        return t == s.told.last ? s.told.v(t) : Math.max(s.told.v(t), waiting(t, c));
    }

    int alone(int y, int c, int what) {
        if (s == null) {
            return STATE;
        }
        if (!in(y, 0, s.told.last) || !in(c, 1, 9) || !in(what, 0, 1)) {
            return BAD;
        }
        if (what == 0) {
            return aloneValue(y, c);
        }
        for (int t = y; t < s.told.last; t++) {
            if (s.told.v(t) >= waiting(t, c)) {
                return t;
            }
        }
        return s.told.last;
    }

    int best(int y) {
        if (s == null) {
            return STATE;
        }
        if (!in(y, 0, s.told.last)) {
            return BAD;
        }
        int best = 9;
        for (int c = 8; c >= 1; c--) {
            best = aloneValue(y, c) >= aloneValue(y, best) ? c : best;
        }
        return best;
    }

    int[] chanceAndValue(int t, int w) {
        int v = s.told.v(t);
        if (t == s.told.last) {
            return new int[] {1000, v / 2};
        }
        int wait = chanceAndValue(t + 1, w)[1] * (1000 - s.told.lost) / 1000;
        int gain = v - wait, loss = w * v / 100 - v / 2;
        if (gain <= 0) {
            return new int[] {0, wait};
        }
        if (loss <= 0) {
            return new int[] {1000, v / 2};
        }
        int chance = 1000 * gain / (gain + loss);
        return new int[] {chance, (chance * (v / 2) + (1000 - chance) * v) / 1000};
    }

    int two(int y, int w, int what) {
        if (s == null) {
            return STATE;
        }
        if (!in(y, 0, s.told.last) || !in(w, 0, 100) || !in(what, 0, 1)) {
            return BAD;
        }
        return chanceAndValue(y, w)[what];
    }

    int think(int q, int p, int n) {
        if (!in(q, 0, 1000) || !in(p, 0, 1000) || !in(n, 0, 60)) {
            return BAD;
        }
        if (n == 0) {
            return q;
        }
        int by = 1000 - q * p / 1000;
        return think(by == 0 ? 0 : q * (1000 - p) / by, p, n - 1);
    }

    int lostUse(int piece, int y, int z) {
        return !isPiece(piece) || !in(y, 0, 999) || !in(z, y, 999) ? BAD : s.told.uses.get(piece) * (z - y);
    }

    int silence(int a, int b, int piece, int y, int what) {
        if (!isKeeper(a) || !isKeeper(b) || a == b || !isPiece(piece) || !in(y, 0, 999) || !in(what, 0, 1)) {
            return BAD;
        }
        if (s.has(a, piece) == 0 || s.has(b, piece) == 0) {
            return STATE;
        }
        int m = s.had(piece), from = s.told.worth(y, m);
        return what == 0 ? from : s.told.worth(y, m - 1) - from;
    }

    int bestSum;
    List<Integer> bestOrder;

    void tryOrders(List<Integer> bought, List<Integer> left, int sum, int worth) {
        if (left.isEmpty() && (bestOrder == null || sum < bestSum)) {
            bestSum = sum;
            bestOrder = new ArrayList<>(bought);
        }
        for (int i = 0; i < left.size(); i++) {
            int k = left.remove(i);
            int asks = worth * (100 + 10 * bought.size()) * (100 + s.told.ns.get(k)) / 10000;
            bought.add(k);
            tryOrders(bought, left, sum + asks, worth);
            bought.remove(bought.size() - 1);
            left.add(i, k);
        }
    }

    int corner(int a, int piece, int y, int place) {
        if (!isKeeper(a) || !isPiece(piece) || !in(y, 0, 999) || place < -1) {
            return BAD;
        }
        if (s.has(a, piece) == 0) {
            return STATE;
        }
        List<Integer> others = new ArrayList<>();
        for (int k = 0; k < s.told.ways.size(); k++) {
            if (k != a && s.has(k, piece) > 0) {
                others.add(k);
            }
        }
        bestOrder = null;
        tryOrders(new ArrayList<>(), others, 0, s.told.worth(y, s.had(piece)));
        return place == -1 ? bestSum : place < bestOrder.size() ? bestOrder.get(place) : NONE;
    }

    int make(int m, int p, int f) {
        if (s == null) {
            return STATE;
        }
        if (!in(m, 0, 99999) || !in(p, 0, 1000) || !in(f, -1, 99999)) {
            return BAD;
        }
        int gain = s.told.v(s.told.last) - m;
        if (f >= 0) {
            return gain > p * f / 1000 ? 1 : 0;
        }
        for (int g = 0; g <= 99999; g++) {
            if (gain <= p * g / 1000) {
                return g;
            }
        }
        return NONE;
    }

    int fit(int row, int i) {
        if (s == null) {
            return STATE;
        }
        if (!in(row, 0, 7) || i < -1) {
            return BAD;
        }
        if (rows[row] == null) {
            return found(1);
        }
        int keepers = s.told.ways.size();
        if (rows[row].length < keepers) {
            return found(2);
        }
        for (int k = 0; k < keepers; k++) {
            if (!in(rows[row][k], -1, s.told.last)) {
                return BAD;
            }
        }
        List<Integer> sets = new ArrayList<>();
        for (int set = 0; set < 1 << keepers; set++) {
            Told one = s.told.copy();
            one.lost = 0;
            one.uses = List.of(0);
            List<Integer> seers = new ArrayList<>();
            for (int k = 0; k < keepers; k++) {
                if ((set >> k & 1) == 1) {
                    seers.add(k);
                }
            }
            one.seen = List.of(seers);
            State trial = new State(one);
            for (int y = 0; y <= one.last; y++) {
                trial.passYear();
            }
            boolean fits = true;
            for (int k = 0; k < keepers; k++) {
                fits &= trial.soldIn.getOrDefault(k + "/0", -1) == rows[row][k];
            }
            if (fits) {
                sets.add(set);
            }
        }
        return fine(i == -1 ? sets.size() : i < sets.size() ? sets.get(i) : NONE);
    }

    int laws(int law) {
        if (s == null) {
            return STATE;
        }
        if (!in(law, 0, 1)) {
            return BAD;
        }
        Told other = s.told.copy();
        other.law = law == 0 ? "old" : "fresh";
        other.lost = 0;
        State trial = new State(other);
        for (int y = 0; y <= other.last; y++) {
            trial.passYear();
        }
        return trial.earned.values().stream().mapToInt(e -> e).sum();
    }

    int image(int k) {
        if (!in(k, 0, 1)) {
            return BAD;
        }
        if (s == null) {
            return STATE;
        }
        images[k] = s.copy();
        return 1;
    }

    int restore(int k) {
        if (!in(k, 0, 1)) {
            return BAD;
        }
        if (images[k] == null) {
            return STATE;
        }
        s = images[k].copy();
        return 1;
    }

    static final List<String> WAYS = List.of("keeper", "now", "age", "watch", "copies", "silent");

    int kind(int keeper) {
        return isKeeper(keeper) ? WAYS.indexOf(s.told.ways.get(keeper)) : BAD;
    }

    int as(int keeper, int kind) {
        if (!isKeeper(keeper) || !in(kind, 0, 5)) {
            return BAD;
        }
        int told = kind(keeper);
        boolean is = kind == 0 || kind == told || kind == 2 && (told == 3 || told == 4);
        return is ? fine(keeper) : found(3);
    }

    int size(int k) {
        return body(new int[] {0, 10, 11, 12, 13, 14}[kind(k)], k);
    }

    int mark(int k) {
        return body(new int[] {0, 23, 21, 21, 22, 24}[kind(k)], k);
    }

    int body(int number, int k) {
        trace.add(number);
        switch (number) {
            case 10: return s.earned.getOrDefault(k, 0);
            case 11: return body(10, k) + mark(k);
            case 12: return 0 - body(11, k);
            case 13: return body(11, k) + s.pieces(k);
            case 14: return body(10, k) - 100;
            case 20: return k;
            case 21: return body(20, k) + 10 * s.told.ns.get(k);
            case 22: return 2 * body(21, k);
            case 23: return body(20, k) - size(k);
            default: return body(20, k) + size(k);
        }
    }

    int ask(int keeper, int what) {
        if (!isKeeper(keeper) || !in(what, 0, 1)) {
            return BAD;
        }
        trace = new ArrayList<>();
        return what == 0 ? size(keeper) : mark(keeper);
    }

    int trace(int i) {
        return in(i, 0, Math.min(16, trace.size()) - 1) ? trace.get(i) : NONE;
    }

    int count(int what) {
        if (!in(what, 0, 7)) {
            return BAD;
        }
        int there = 0;
        for (int[] row : rows) {
            there += row == null ? 0 : 1;
        }
        return new int[] {there, s == null ? 0 : s.told.ways.size(), s == null ? 0 : s.told.uses.size(),
            s == null ? 0 : s.told.points.size(), s == null ? 0 : s.year, tape.length(),
            s == null ? 0 : s.told.last, s != null && s.told.law.equals("fresh") ? 1 : 0}[what];
    }

    int status() {
        return status;
    }
}
