import java.math.BigInteger;
import java.util.ArrayList;
import java.util.Arrays;
import java.util.HashMap;
import java.util.HashSet;
import java.util.List;
import java.util.Map;
import java.util.NoSuchElementException;
import java.util.Set;
import java.util.TreeSet;
import java.util.function.ToIntFunction;

/**
 * The document once more, written as plainly and as slowly as can be and apart from the class, to
 * compare answers with. Nothing here is shared with src/main.
 */
final class Model {
    /** One who lives in the street, and what became of its lace. */
    static final class One {
        int f, h, x, y;
        Set<Integer> friends = new TreeSet<>();
        int day = 0;
        int tied = 0;
        boolean cut = false;
        int slipped = 0;
        int by = -1;

        One copy() {
            One c = new One();
            c.f = f;
            c.h = h;
            c.x = x;
            c.y = y;
            c.friends = friends;
            c.day = day;
            c.tied = tied;
            c.cut = cut;
            c.slipped = slipped;
            c.by = by;
            return c;
        }
    }

    static final class World {
        int today = 0;
        int ties = 0;
        List<One> all = new ArrayList<>();

        World copy() {
            World c = new World();
            c.today = today;
            c.ties = ties;
            for (One o : all) {
                c.all.add(o.copy());
            }
            return c;
        }

        void nextDay() {
            today++;
            for (One o : all) {
                if (o.tied == 1) {
                    o.tied = 0;
                } else if (o.tied == 2) {
                    o.day++;
                }
                if (o.cut) {
                    o.day = today;
                }
            }
        }

        int behind() {
            int sum = 0;
            for (One o : all) {
                sum += today - o.day;
            }
            return sum;
        }

        int slipped() {
            int sum = 0;
            for (One o : all) {
                sum += o.slipped;
            }
            return sum;
        }
    }

    static final class Image {
        World world;
        List<World> undone;
    }

    static final class Fault extends Exception {
        private static final long serialVersionUID = 1;
        final int kind;
        final int place;

        Fault(int kind, int place) {
            this.kind = kind;
            this.place = place;
        }
    }

    record Token(char kind, String text, int place) {
        boolean is(String t) {
            return kind != 'e' && text.equals(t);
        }
    }

    static final class Step {
        String word;
        int a, b;
        List<Step> inner = new ArrayList<>();
    }

    private final List<Integer> tape = new ArrayList<>();
    private World w = new World();
    private int string = 20;
    private ToIntFunction<Map<String, Integer>> law = null;
    private Map<Integer, Integer> book = new HashMap<>();
    private List<World> undos = new ArrayList<>();
    private List<Image> images = new ArrayList<>();
    private int place = -1;
    private int refused = 0;
    private int noPerson = 0;
    private int wrong = 0;

    private List<Token> tokens;
    private int token;

    // ---- reading ----

    int feed(int a, int b, int c, int d, int e) {
        if (tape.size() + 20 > 600) {
            return -1;
        }
        for (int v : new int[] {a, b, c, d, e}) {
            tape.add(v >>> 24);
            tape.add(v >>> 16 & 255);
            tape.add(v >>> 8 & 255);
            tape.add(v & 255);
        }
        return tape.size();
    }

    private void take(int n, int most) {
        if (n < 0 || n > most || n > tape.size()) {
            wrong++;
            throw new IllegalArgumentException();
        }
        StringBuilder s = new StringBuilder();
        for (int i = 0; i < n; i++) {
            s.append((char) (int) tape.get(i));
        }
        tokens = new ArrayList<>();
        token = 0;
        int i = 0;
        while (i < n) {
            char c = s.charAt(i);
            int j = i + 1;
            if (c >= '0' && c <= '9') {
                while (j < n && s.charAt(j) >= '0' && s.charAt(j) <= '9') {
                    j++;
                }
                tokens.add(new Token('n', s.substring(i, j), i));
            } else if (c >= 'a' && c <= 'z') {
                while (j < n && s.charAt(j) >= 'a' && s.charAt(j) <= 'z') {
                    j++;
                }
                tokens.add(new Token('w', s.substring(i, j), i));
            } else if (c != ' ') {
                tokens.add(new Token('s', s.substring(i, j), i));
            }
            i = j;
        }
        tokens.add(new Token('e', "", n));
    }

    private Token peek() {
        return tokens.get(token);
    }

    private void sign(String s) throws Fault {
        if (!peek().is(s)) {
            throw new Fault(1, peek().place);
        }
        token++;
    }

    private int number(int most) throws Fault {
        Token t = peek();
        if (t.kind != 'n') {
            throw new Fault(1, t.place);
        }
        if (new BigInteger(t.text).compareTo(BigInteger.valueOf(most)) > 0) {
            throw new Fault(2, t.place);
        }
        token++;
        return new BigInteger(t.text).intValue();
    }

    interface Reading {
        int read() throws Fault;
    }

    private int reading(Reading r) {
        tape.clear();
        place = -1;
        try {
            return r.read();
        } catch (Fault f) {
            place = f.place;
            return f.kind - 10;
        }
    }

    int street(int n) {
        take(n, 600);
        return reading(this::readStreet);
    }

    private int readStreet() throws Fault {
        World next = new World();
        int nextString = 20;
        int clauses = 0;
        while (peek().kind != 'e') {
            Token t = peek();
            if (!t.is("person") && !t.is("friend") && !t.is("string")) {
                throw new Fault(1, t.place);
            }
            clauses++;
            if (clauses == 61 || t.is("person") && next.all.size() == 8) {
                throw new Fault(3, t.place);
            }
            token++;
            if (t.is("person")) {
                One o = new One();
                o.f = number(9);
                o.h = number(9);
                o.x = number(20);
                o.y = number(20);
                next.all.add(o);
            } else if (t.is("friend")) {
                int a = number(next.all.size() - 1);
                int at = peek().place;
                int b = number(next.all.size() - 1);
                if (a == b) {
                    throw new Fault(2, at);
                }
                next.all.get(a).friends.add(b);
                next.all.get(b).friends.add(a);
            } else {
                nextString = number(99);
            }
            sign(";");
        }
        w = next;
        string = nextString;
        law = null;
        book = new HashMap<>();
        undos = new ArrayList<>();
        images = new ArrayList<>();
        refused = 0;
        return w.all.size();
    }

    int law(int n) {
        take(n, 150);
        return reading(() -> {
            ToIntFunction<Map<String, Integer>> e = expression(0);
            if (peek().kind != 'e') {
                throw new Fault(1, peek().place);
            }
            law = e;
            return 1;
        });
    }

    private ToIntFunction<Map<String, Integer>> expression(int open) throws Fault {
        ToIntFunction<Map<String, Integer>> e = term(open);
        while (peek().is("+") || peek().is("-")) {
            boolean plus = peek().is("+");
            token++;
            ToIntFunction<Map<String, Integer>> l = e;
            ToIntFunction<Map<String, Integer>> r = term(open);
            e = plus ? m -> l.applyAsInt(m) + r.applyAsInt(m) : m -> l.applyAsInt(m) - r.applyAsInt(m);
        }
        return e;
    }

    private ToIntFunction<Map<String, Integer>> term(int open) throws Fault {
        ToIntFunction<Map<String, Integer>> e = unit(open);
        while (peek().is("*") || peek().is("/") || peek().is("%")) {
            String op = peek().text;
            token++;
            ToIntFunction<Map<String, Integer>> l = e;
            ToIntFunction<Map<String, Integer>> r = unit(open);
            e = m -> {
                int a = l.applyAsInt(m);
                int b = r.applyAsInt(m);
                if (op.equals("*")) {
                    return a * b;
                }
                if (b == 0) {
                    return 0;
                }
                return (int) (op.equals("/") ? (long) a / b : (long) a % b);
            };
        }
        return e;
    }

    private static final List<String> NAMES = List.of("fingers", "haste", "behind", "double", "friend", "self",
        "slips", "day");

    private ToIntFunction<Map<String, Integer>> unit(int open) throws Fault {
        Token t = peek();
        if (t.kind == 'n') {
            int v = number(999);
            return m -> v;
        }
        if (NAMES.contains(t.text)) {
            token++;
            return m -> m.get(t.text);
        }
        if (!t.is("(") && !t.is("least") && !t.is("most")) {
            throw new Fault(1, t.place);
        }
        if (open == 6) {
            throw new Fault(3, t.place);
        }
        token++;
        if (t.is("(")) {
            ToIntFunction<Map<String, Integer>> e = expression(open + 1);
            sign(")");
            return e;
        }
        sign("[");
        ToIntFunction<Map<String, Integer>> l = expression(open + 1);
        sign(",");
        ToIntFunction<Map<String, Integer>> r = expression(open + 1);
        sign("]");
        return t.is("least") ? m -> Math.min(l.applyAsInt(m), r.applyAsInt(m))
            : m -> Math.max(l.applyAsInt(m), r.applyAsInt(m));
    }

    int work(int n) {
        take(n, 150);
        if (undos.size() == 16) {
            tape.clear();
            place = -1;
            return -20;
        }
        return reading(() -> {
            List<Step> steps = steps(0);
            if (peek().kind != 'e') {
                throw new Fault(1, peek().place);
            }
            undos.add(w.copy());
            refused = 0;
            int[] counts = new int[2];
            run(steps, counts);
            refused = counts[0] - counts[1] - agains;
            return counts[1];
        });
    }

    private int agains;

    private List<Step> steps(int open) throws Fault {
        agains = 0;
        List<Step> all = new ArrayList<>();
        while (peek().kind == 'w') {
            Step s = new Step();
            s.word = peek().text;
            if (!List.of("tie", "double", "cut", "mend", "undo", "day", "again").contains(s.word)) {
                throw new Fault(1, peek().place);
            }
            if (s.word.equals("again") && open == 6) {
                throw new Fault(3, peek().place);
            }
            token++;
            if (s.word.equals("again")) {
                s.a = number(60);
                sign("[");
                s.inner = steps(open + 1);
                sign("]");
            } else if (!s.word.equals("day")) {
                s.a = number(w.all.size() - 1);
                if (s.word.equals("tie") || s.word.equals("double")) {
                    s.b = number(w.all.size() - 1);
                }
            }
            sign(";");
            all.add(s);
        }
        return all;
    }

    /** counts: begun, done. */
    private void run(List<Step> steps, int[] counts) {
        for (Step s : steps) {
            if (counts[0] == 200) {
                return;
            }
            counts[0]++;
            if (s.word.equals("again")) {
                agains++;
                for (int i = 0; i < s.a; i++) {
                    run(s.inner, counts);
                }
            } else if (step(s)) {
                counts[1]++;
            }
        }
    }

    private boolean step(Step s) {
        if (s.word.equals("day")) {
            if (w.today >= 900) {
                return false;
            }
            w.nextDay();
            return true;
        }
        One o = w.all.get(s.a);
        switch (s.word) {
            case "tie": return tie(w, s.a, s.b, 0);
            case "double": return tie(w, s.a, s.b, 1);
            case "cut":
                if (o.cut) {
                    return false;
                }
                o.cut = true;
                o.tied = 0;
                return true;
            case "mend":
                boolean was = o.cut;
                o.cut = false;
                return was;
            default:
                boolean wasTied = o.tied > 0;
                o.tied = 0;
                return wasTied;
        }
    }

    private static boolean could(World v, int a, int b) {
        if (v.all.get(b).tied > 0 || v.all.get(b).cut) {
            return false;
        }
        return a == b || v.all.get(a).tied > 0;
    }

    private boolean tie(World v, int a, int b, int twice) {
        if (!could(v, a, b)) {
            return false;
        }
        One o = v.all.get(b);
        if (holdIn(v, a, b, twice) >= 10) {
            o.tied = 1 + twice;
            o.by = a;
            o.day = a == b ? v.today : v.all.get(a).day;
            v.ties++;
        } else {
            o.slipped++;
        }
        return true;
    }

    private int holdIn(World v, int a, int b, int twice) {
        One o = v.all.get(b);
        return holdBy(v.all.get(a).f, o.h, v.today - o.day, twice, o.friends.contains(a) ? 1 : 0, a == b ? 1 : 0,
            o.slipped, v.today);
    }

    private int holdBy(int... values) {
        Map<String, Integer> m = new HashMap<>();
        for (int i = 0; i < 8; i++) {
            m.put(NAMES.get(i), values[i]);
        }
        int v = law == null ? values[0] * 5 + values[3] * 20 - values[1] * 2 - values[2] : law.applyAsInt(m);
        return Math.max(0, Math.min(99, v));
    }

    int book(int n) {
        take(n, 60);
        return reading(() -> {
            Map<Integer, Integer> next = new HashMap<>();
            while (peek().kind != 'e') {
                int at = peek().place;
                int a = number(w.all.size() - 1);
                if (next.containsKey(a)) {
                    throw new Fault(2, at);
                }
                next.put(a, number(999));
                sign(";");
            }
            book = next;
            return book.size();
        });
    }

    int fault() {
        return place;
    }

    int undo() {
        if (undos.isEmpty()) {
            return -1;
        }
        w = undos.remove(undos.size() - 1).copy();
        refused = 0;
        return undos.size();
    }

    // ---- asking ----

    private void bad(boolean isBad) {
        if (isBad) {
            wrong++;
            throw new IllegalArgumentException();
        }
    }

    private void outside(int v, int from, int to) {
        bad(v < from || v > to);
    }

    private One one(int p) {
        if (p < 0 || p >= w.all.size()) {
            noPerson++;
            throw new NoSuchElementException();
        }
        return w.all.get(p);
    }

    interface Question {
        boolean asks(int p);
    }

    private int bits(Question q) {
        int bits = 0;
        for (int p = 0; p < w.all.size(); p++) {
            if (q.asks(p)) {
                bits += 1 << p;
            }
        }
        return bits;
    }

    private Set<Integer> set(int persons) {
        Set<Integer> s = new TreeSet<>();
        for (int p = 0; p < 32; p++) {
            if ((persons >>> p & 1) == 1) {
                s.add(p);
            }
        }
        for (int p : s) {
            bad(p >= w.all.size());
        }
        return s;
    }

    int told(int what) {
        outside(what, 0, 11);
        return switch (what) {
            case 0 -> w.all.size();
            case 1 -> w.today;
            case 2 -> bits(p -> w.all.get(p).tied > 0);
            case 3 -> bits(p -> w.all.get(p).tied == 2);
            case 4 -> bits(p -> w.all.get(p).cut);
            case 5 -> bits(p -> w.all.get(p).day < w.today);
            case 6 -> w.behind();
            case 7 -> w.slipped();
            case 8 -> string;
            case 9 -> book.size();
            case 10 -> refused;
            default -> w.ties;
        };
    }

    int person(int person, int what) {
        One o = one(person);
        outside(what, 0, 10);
        return switch (what) {
            case 0 -> o.f;
            case 1 -> o.h;
            case 2 -> o.x;
            case 3 -> o.y;
            case 4 -> o.day;
            case 5 -> w.today - o.day;
            case 6 -> o.tied;
            case 7 -> o.cut ? 1 : 0;
            case 8 -> o.slipped;
            case 9 -> o.by;
            default -> bits(p -> o.friends.contains(p));
        };
    }

    int hold(int a, int b, int twice) {
        one(a);
        one(b);
        outside(twice, 0, 1);
        return holdIn(w, a, b, twice);
    }

    int would(int f, int h, int behind, int twice, int friend, int self, int slips, int day) {
        bad(f < 0 || f > 9 || h < 0 || h > 9 || behind < 0 || behind > 999 || twice < 0 || twice > 1 || friend < 0
            || friend > 1 || self < 0 || self > 1 || slips < 0 || slips > 999 || day < 0 || day > 900);
        return holdBy(f, h, behind, twice, friend, self, slips, day);
    }

    boolean can(int a, int b) {
        one(a);
        one(b);
        return could(w, a, b);
    }

    private World behindDays(int n) {
        World v = w.copy();
        for (int i = 0; i < n; i++) {
            v.nextDay();
        }
        return v;
    }

    int ahead(int n, int what) {
        bad(n < 0 || n > 99 || what < 0 || what > 2);
        World v = behindDays(n);
        return what == 0 ? v.behind() : what == 1 ? bits(p -> v.all.get(p).day < v.today)
            : bits(p -> v.all.get(p).tied > 0);
    }

    int catches(int p) {
        one(p);
        for (int n = 0; n < 100; n++) {
            World v = w.copy();
            for (int i = 0; i < n; i++) {
                tie(v, p, p, 1);
                v.nextDay();
            }
            if (v.all.get(p).day == v.today) {
                return n;
            }
        }
        return -1;
    }

    private int way(int a, int b) {
        One o = w.all.get(a);
        One q = w.all.get(b);
        return Math.abs(o.x - q.x) + Math.abs(o.y - q.y);
    }

    int far(int a, int b) {
        one(a);
        one(b);
        return way(a, b);
    }

    int round(int p, int persons) {
        one(p);
        return shortest(p, set(persons));
    }

    private int shortest(int at, Set<Integer> left) {
        int least = left.isEmpty() ? 0 : 99999;
        for (int next : left) {
            Set<Integer> rest = new TreeSet<>(left);
            rest.remove(next);
            least = Math.min(least, way(at, next) + shortest(next, rest));
        }
        return least;
    }

    /** Tries every way to give; the best is left in all: less given, less days, who by whom (8: nobody). */
    private void ways(int p, List<Integer> way, List<int[]> all) {
        if (p == w.all.size()) {
            int given = 0;
            int days = 0;
            for (int q = 0; q < p; q++) {
                if (way.get(q) < 8) {
                    given++;
                    days += way.get(q) == q ? w.today : w.all.get(way.get(q)).day;
                }
            }
            int[] row = new int[2 + p];
            row[0] = -given;
            row[1] = -days;
            for (int q = 0; q < p; q++) {
                row[2 + q] = way.get(q);
            }
            if (all.isEmpty() || Arrays.compare(row, all.get(0)) < 0) {
                all.clear();
                all.add(row);
            }
            return;
        }
        for (int a = 0; a <= 8; a++) {
            if (a == 8 || a < w.all.size() && !way.contains(a) && could(w, a, p) && holdIn(w, a, p, 0) >= 10) {
                way.add(a);
                ways(p + 1, way, all);
                way.remove(way.size() - 1);
            }
        }
    }

    int kneel(int what) {
        outside(what, 0, 1);
        List<int[]> all = new ArrayList<>();
        ways(0, new ArrayList<>(), all);
        return -all.get(0)[what];
    }

    int kneels(int p) {
        one(p);
        List<int[]> all = new ArrayList<>();
        ways(0, new ArrayList<>(), all);
        return all.get(0)[2 + p] == 8 ? -1 : all.get(0)[2 + p];
    }

    int ring(int p, int what) {
        one(p);
        outside(what, 0, 1);
        Set<Integer> there = new HashSet<>();
        there.add(p);
        int steps = 0;
        int at = p;
        while (w.all.get(at).by != -1) {
            at = w.all.get(at).by;
            steps++;
            if (!there.add(at)) {
                return what == 0 ? steps : 1;
            }
        }
        return what == 0 ? steps : 0;
    }

    private Map<Integer, World> right() {
        Map<Integer, World> all = new java.util.TreeMap<>();
        for (int a = 0; a < w.all.size(); a++) {
            for (int b = 0; b < w.all.size(); b++) {
                World v = w.copy();
                tie(v, a, b, 0);
                boolean fits = true;
                for (Map.Entry<Integer, Integer> e : book.entrySet()) {
                    fits &= v.all.get(e.getKey()).day == e.getValue();
                }
                if (fits) {
                    all.put(10 * a + b, v);
                }
            }
        }
        return all;
    }

    int fits(int what) {
        outside(what, 0, 1);
        Map<Integer, World> all = right();
        return what == 0 ? all.size() : all.isEmpty() ? -1 : all.keySet().iterator().next();
    }

    int look(int what) {
        outside(what, 0, 1);
        Map<Integer, World> all = right();
        int who = -1;
        int fewest = -1;
        for (int p = 0; p < w.all.size(); p++) {
            if (book.containsKey(p)) {
                continue;
            }
            int[] byDay = new int[2000];
            int worst = 0;
            for (World v : all.values()) {
                byDay[v.all.get(p).day]++;
                worst = Math.max(worst, byDay[v.all.get(p).day]);
            }
            if (who == -1 || worst < fewest) {
                who = p;
                fewest = worst;
            }
        }
        return what == 0 ? who : fewest;
    }

    int soldier(int v, int s, int what) {
        bad(v < 0 || v > 99 || s < 0 || s > 99 || what < 0 || what > 2);
        int[][][] has = {{{-s, -s}, {v, 0}}, {{0, v}, {s, s}}};
        int many = 0;
        int first = -1;
        int sum = 0;
        for (int i = 0; i < 2; i++) {
            for (int j = 0; j < 2; j++) {
                if (has[1 - i][j][0] > has[i][j][0] || has[i][1 - j][1] > has[i][j][1]) {
                    continue;
                }
                if (many++ == 0) {
                    first = 10 * i + j;
                    sum = has[i][j][0] + has[i][j][1];
                }
            }
        }
        return what == 0 ? many : what == 1 ? first : sum;
    }

    long dry(int n, int k, int q, int part) {
        bad(n < 0 || n > 12 || k < 0 || k > 13 || q < 0 || q > 16 || part < 0 || part > 1);
        BigInteger above = BigInteger.ZERO;
        for (int days = 0; days < 1 << n; days++) {
            int dry = Integer.bitCount(days);
            if (dry >= k) {
                above = above.add(BigInteger.valueOf(16 - q).pow(dry).multiply(BigInteger.valueOf(q).pow(n - dry)));
            }
        }
        BigInteger below = BigInteger.valueOf(16).pow(n);
        BigInteger common = above.gcd(below);
        return (part == 0 ? above : below).divide(common).longValueExact();
    }

    int share(int p, int persons, int n) {
        One o = one(p);
        Set<Integer> s = set(persons);
        outside(n, 0, 9999);
        int bound = 0;
        for (int b = 0; b <= 1000; b++) {
            int sum = 0;
            for (int q : s) {
                sum += Math.min(b, w.today - w.all.get(q).day);
            }
            bound = sum <= n ? b : bound;
        }
        return s.contains(p) ? Math.min(bound, w.today - o.day) : 0;
    }

    int slowest(int what) {
        outside(what, 0, 1);
        for (int by = w.today; by > 0; by--) {
            for (int p = 0; p < w.all.size(); p++) {
                if (w.today - w.all.get(p).day == by) {
                    return what == 0 ? p : by;
                }
            }
        }
        return -1;
    }

    int helpers(int p) {
        one(p);
        return bits(a -> could(w, a, p) && holdIn(w, a, p, 0) >= 10);
    }

    int tied(int p) {
        one(p);
        return bits(b -> w.all.get(b).by == p);
    }

    int within(int day) {
        outside(day, 0, 999);
        return bits(p -> w.all.get(p).day == day);
    }

    int days() {
        Set<Integer> s = new HashSet<>();
        for (One o : w.all) {
            s.add(o.day);
        }
        return s.size();
    }

    int kin(int p) {
        one(p);
        Set<Integer> s = new TreeSet<>();
        List<Integer> open = new ArrayList<>(List.of(p));
        while (!open.isEmpty()) {
            int q = open.remove(0);
            if (s.add(q)) {
                open.addAll(w.all.get(q).friends);
            }
        }
        return bits(s::contains);
    }

    int steady() {
        return bits(p -> could(w, p, p) && holdIn(w, p, p, 0) >= 10);
    }

    int best(int p) {
        one(p);
        for (int hold = 99; hold >= 0; hold--) {
            for (int a = 0; a < w.all.size(); a++) {
                if (could(w, a, p) && holdIn(w, a, p, 0) == hold) {
                    return a;
                }
            }
        }
        return -1;
    }

    int gap(int a, int b) {
        return one(a).day - one(b).day;
    }

    int nearest(int p) {
        one(p);
        for (int d = 0; d <= 40; d++) {
            for (int q = 0; q < w.all.size(); q++) {
                if (q != p && way(p, q) == d) {
                    return q;
                }
            }
        }
        return -1;
    }

    int later(int p, int n) {
        one(p);
        outside(n, 0, 99);
        return behindDays(n).all.get(p).day;
    }

    int loose() {
        return bits(p -> w.all.get(p).tied == 0 && !w.all.get(p).cut);
    }

    int farthest(int what) {
        outside(what, 0, 1);
        for (int d = 40; d >= 0; d--) {
            for (int a = 0; a < w.all.size(); a++) {
                for (int b = a + 1; b < w.all.size(); b++) {
                    if (way(a, b) == d) {
                        return what == 0 ? 10 * a + b : d;
                    }
                }
            }
        }
        return -1;
    }

    int mates(int p) {
        One o = one(p);
        return bits(q -> q != p && w.all.get(q).day == o.day);
    }

    int middle(int what) {
        outside(what, 0, 1);
        for (int sum = 0; sum <= 280; sum++) {
            for (int p = 0; p < w.all.size(); p++) {
                int ways = 0;
                for (int q = 0; q < w.all.size(); q++) {
                    ways += way(p, q);
                }
                if (ways == sum) {
                    return what == 0 ? p : sum;
                }
            }
        }
        return -1;
    }

    private World behindWeek(int seed, int days, int q) {
        World v = w.copy();
        long[] s = {seed & 0xffffffffL};
        int many = v.all.size();
        for (int d = 0; d < days; d++) {
            for (int i = 0; i < many; i++) {
                int a = drawn(s, many);
                int b = drawn(s, many);
                int c = drawn(s, 16);
                tie(v, a, b, c < q ? 1 : 0);
            }
            v.nextDay();
        }
        return v;
    }

    private static int drawn(long[] s, int by) {
        s[0] = (s[0] * 1103515245L + 12345L) % 4294967296L;
        return (int) (s[0] / 65536 % 32768 % by);
    }

    int week(int seed, int days, int q, int what) {
        bad(days < 1 || days > 96 || q < 0 || q > 16 || what < 0 || what > 3);
        World v = behindWeek(seed, days, q);
        return switch (what) {
            case 0 -> v.behind();
            case 1 -> bits(p -> v.all.get(p).tied > 0);
            case 2 -> v.slipped() - w.slipped();
            default -> v.ties - w.ties;
        };
    }

    int span(int seed, int many, int days, int q, int what, int person) {
        bad(many < 1 || many > 20 || days < 1 || days > 96 || q < 0 || q > 16 || what < 0 || what > 2 || person < 0
            || person >= w.all.size());
        List<Integer> sums = new ArrayList<>();
        int today = 0;
        for (int i = 0; i < many; i++) {
            World v = behindWeek(seed + i, days, q);
            sums.add(v.behind());
            today += v.all.get(person).day == v.today ? 1 : 0;
        }
        sums.sort(null);
        return what == 0 ? sums.get(0) : what == 1 ? sums.get(many - 1) : today;
    }

    int image() {
        if (images.size() == 3) {
            return -1;
        }
        Image i = new Image();
        i.world = w.copy();
        i.undone = new ArrayList<>(undos);
        images.add(i);
        return images.size();
    }

    int restore() {
        if (images.isEmpty()) {
            return -1;
        }
        Image i = images.remove(images.size() - 1);
        w = i.world;
        undos = i.undone;
        refused = 0;
        return images.size();
    }

    int status(int what) {
        return what == 0 ? noPerson : what == 1 ? wrong : -1;
    }

    int count(int what) {
        return what == 0 ? images.size() : what == 1 ? tape.size() : what == 2 ? undos.size() : -1;
    }
}
