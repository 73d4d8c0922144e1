import java.util.ArrayList;
import java.util.List;
import java.util.Random;

/** Long random runs of calls, each answer compared with the Model's. */
public final class ModelTest {
    private static final int RUNS = 1500, CALLS = 512;
    private final Random random;
    private final AWordStuck x = new AWordStuck();
    private final Model m = new Model();
    private final List<String> calls = new ArrayList<>();
    private String pending = "";

    private ModelTest(long seed) { random = new Random(seed); }

    public static void main(String[] args) {
        long from = args.length > 0 ? Long.parseLong(args[0]) : 1;
        for (long seed = from; seed < from + RUNS; seed++) {
            if (!new ModelTest(seed).go(seed)) System.exit(1);
        }
        System.out.println(RUNS + " runs of " + CALLS + " calls each are as the model's");
    }

    private boolean go(long seed) {
        int people = random.nextInt(6);
        for (int i = 0; i < people; i++) { int k = random.nextInt(6), n = random.nextInt(10); both("man", x.man(k, n), m.man(k, n), k, n); }
        for (int i = people; i < CALLS; i++) {
            if (!call()) {
                System.out.println("seed " + seed + ", call " + i + ":");
                for (String c : calls.subList(Math.max(0, calls.size() - 40), calls.size())) System.out.println("  " + c);
                return false;
            }
        }
        return true;
    }

    private boolean both(String name, long got, long due, int... args) {
        StringBuilder s = new StringBuilder(name).append('(');
        for (int i = 0; i < args.length; i++) s.append(i == 0 ? "" : ", ").append(args[i]);
        s.append(") = ").append(got);
        if (got != due) s.append(", by the model ").append(due);
        calls.add(s.toString());
        return got == due;
    }

    /** Mostly from 0 to most, sometimes an edge, seldom anything. */
    private int some(int most) {
        int r = random.nextInt(60);
        if (r == 0) return -1;
        if (r == 1) return most + 1;
        if (r == 2) return new int[] {Integer.MIN_VALUE, Integer.MAX_VALUE, -2, 100, 1000}[random.nextInt(5)];
        return random.nextInt(most + 1);
    }

    private int one() { return random.nextInt(25) == 0 ? some(5) : random.nextInt(Math.max(1, m.now.people.size())); }
    private int span() { return random.nextInt(3) == 0 ? some(60) : random.nextInt(16); }

    private boolean call() {
        switch (random.nextInt(36)) {
            case 0: { int a = some(2), b = one(), c = a == 0 ? some(999) : a == 1 ? some(0xFFFFFF) : some(9); return both("set", x.set(a, b, c), m.set(a, b, c), a, b, c); }
            case 1: if (random.nextInt(4) > 0) return back(); { int a = some(5), b = some(9); return both("man", x.man(a, b), m.man(a, b), a, b); }
            case 2: case 3: case 4: { int a = one(), b = some(40); return both("told", x.told(a, b), m.told(a, b), a, b); }
            case 5: case 6: { int a = one(), b = some(9), c = some(16) - 1, d = random.nextBoolean() ? some(12) : some(999); return both("fill", x.fill(a, b, c, d), m.fill(a, b, c, d), a, b, c, d); }
            case 7: { int a = some(255); return random.nextInt(5) > 0 || both("feed", x.feed(a), m.feed(a), a); }
            case 8: case 9: return read();
            case 10: { int a = some(Math.max(0, m.texts.size() - 1)); return both("force", x.force(a), m.force(a), a); }
            case 11: case 12: case 13: { int a = one(), b = some(15), c = some(9); return both("say", x.say(a, b, c), m.say(a, b, c), a, b, c); }
            case 14: { int a = one(), b = some(9); return both("floss", x.floss(a, b), m.floss(a, b), a, b); }
            case 15: { int a = one(), b = one(); return both("kiss", x.kiss(a, b), m.kiss(a, b), a, b); }
            case 16: case 17: return both("live", x.live(), m.live());
            case 18: { int a = span(), b = some(4); return both("run", x.run(a, b), m.run(a, b), a, b); }
            case 19: { int a = one(), b = some(9), c = some(60); return both("off", x.off(a, b, c), m.off(a, b, c), a, b, c); }
            case 20: { int a = one(), b = some(15), c = some(9); return both("foods", x.foods(a, b, c), m.foods(a, b, c), a, b, c); }
            case 21: { int a = span(), b = some(1); return both("best", x.best(a, b), m.best(a, b), a, b); }
            case 22: { int a = one(), b = span(), c = random.nextInt(3) == 0 ? some(9999) : random.nextInt(Math.max(1, m.shameIn(m.now, 60) + 1)); return both("few", x.few(a, b, c), m.few(a, b, c), a, b, c); }
            case 23: { int a = span(), b = some(1); return both("kissing", x.kissing(a, b), m.kissing(a, b), a, b); }
            case 24: { int a = span(), b = some(1); return both("church", x.church(a, b), m.church(a, b), a, b); }
            case 25: return plan();
            case 26: case 27: { int a = some(3), b = one(), c = random.nextInt(4) == 0 ? some(3) : some(39); return both("tells", x.tells(a, b, c), m.tells(a, b, c), a, b, c); }
            case 28: { int a = some(3), b = one(); return both("film", x.film(a, b), m.film(a, b), a, b) && retell(a, b); }
            case 29: { int a = one(), b = random.nextInt(), c = some(16); return both("drawn", x.drawn(a, b, c), m.drawn(a, b, c), a, b, c); }
            case 30: { int a = one(), b = random.nextInt(), c = some(20), d = some(1); return both("chance", x.chance(a, b, c, d), m.chance(a, b, c, d), a, b, c, d); }
            case 31: return random.nextInt(4) == 0 ? both("image", x.image(), m.image()) : back();
            case 32: { int a = some(5); return both("count", x.count(a), m.count(a), a); }
            case 33: return host();
            case 34: { int a = some(3), b = some(2), c = some(12), d = some(5); return random.nextInt(3) > 0 || both("people", x.people(a, b, c, d), m.people(a, b, c, d), a, b, c, d); }
            default: { int a = one(), b = some(5); return both("taken", x.taken(a, b), m.taken(a, b), a, b); }
        }
    }

    private boolean back() { return random.nextInt(6) > 0 ? both("count", x.count(2), m.count(2), 2) : both("back", x.back(), m.back()); }

    /** What was filmed, with a number or two changed, or a thing of the one changed behind it. */
    private boolean retell(int sheet, int man) {
        if (random.nextInt(3) == 0) { int i = some(9), v = some(61) - 1; if (!both("cell", x.cell(sheet, i, v), m.cell(sheet, i, v), sheet, i, v)) return false; }
        for (int i = 0; i < 4; i++) {
            int what = random.nextInt(2) == 0 ? random.nextInt(4) : 10 + random.nextInt(30);
            if (!both("tells", x.tells(sheet, man, what), m.tells(sheet, man, what), sheet, man, what)) return false;
        }
        return true;
    }

    private boolean host() {
        int a = some(3), b = some(2), c = some(40);
        switch (random.nextInt(4)) {
            case 0: { int s = random.nextInt(8) == 0 ? -1 : b; int n = random.nextInt(3) == 0 ? 10 : c; return both("sheet", x.sheet(a, s, n), m.sheet(a, s, n), a, s, n); }
            case 1: { int d = some(40), n = some(12); int o = some(3); return both("copy", x.copy(a, d, o, c, n), m.copy(a, d, o, c, n), a, d, o, c, n); }
            default: { int v = random.nextInt(3) == 0 ? random.nextInt() : some(12); return both("cell", x.cell(a, c, v), m.cell(a, c, v), a, c, v); }
        }
    }

    private boolean plan() {
        int s = random.nextInt(4), rows = random.nextInt(11), kind = random.nextInt(3);
        if (random.nextInt(6) == 0) { int w = some(1), t = some(3); return both("plan", x.plan(t, w), m.plan(t, w), t, w); }
        if (!both("sheet", x.sheet(s, kind, rows * 4), m.sheet(s, kind, rows * 4), s, kind, rows * 4)) return false;
        for (int i = 0; i < rows; i++) {
            int act = random.nextInt(4);
            int other = random.nextInt(Math.max(1, m.now.people.size()));
            int[] row = {act, act == 3 ? 0 : other, act == 0 ? random.nextInt(16) : act == 1 ? random.nextInt(10) : act == 2 ? (other + 1) % Math.max(1, m.now.people.size()) : 0, act == 0 ? random.nextInt(10) : 0};
            if (random.nextInt(30) == 0) row[random.nextInt(4)] = some(12);
            for (int j = 0; j < 4; j++) { x.cell(s, i * 4 + j, row[j]); m.cell(s, i * 4 + j, row[j]); }
        }
        return both("plan", x.plan(s, 0), m.plan(s, 0), s, 0) && both("plan", x.plan(s, 1), m.plan(s, 1), s, 1);
    }

    // ---- texts, as many good ones as broken ones

    private boolean read() {
        StringBuilder s = new StringBuilder();
        for (String key : new String[] {"sticks ", "lasts ", "shames "}) s.append(key).append(either(random.nextInt(4))).append(';').append(random.nextInt(4) == 0 ? "\n " : "");
        if (random.nextInt(3) > 0) spoil(s);
        boolean fits = m.tape.size() + s.length() <= 160;
        if (!fits && random.nextInt(4) > 0) { pending = ""; return both("text", x.text(), m.text()); }
        for (int i = 0; i < s.length(); i++) {
            int got = x.feed(s.charAt(i)), due = m.feed(s.charAt(i));
            if (got != due) return both("feed", got, due, s.charAt(i));
        }
        pending += s;
        boolean same = both("text '" + pending.replace('\n', '|') + "' ", x.text(), m.text());
        pending = "";
        return same;
    }

    private void spoil(StringBuilder s) {
        String[] bits = {"(", ")", ";", "+", "-", "*", "<", "=", " ", "not ", "-", "((((", "not not not ", "- - - -", "12345", "0000", "00001", "x", "A", "\t", "or", " and ", "word", "$", "\u00e9", "lasts ", "", "", "9", "a"};
        for (int i = 0; i <= random.nextInt(2); i++) {
            int at = random.nextInt(s.length() + 1);
            if (random.nextInt(3) == 0) s.delete(at, Math.min(s.length(), at + 1 + random.nextInt(3)));
            else if (random.nextInt(8) == 0) s.setLength(at);
            else s.insert(at, bits[random.nextInt(bits.length)]);
        }
        if (s.length() == 0) s.append(' ');
    }

    private String either(int depth) {
        switch (random.nextInt(9)) {
            case 0: return depth > 0 ? both(depth) + " or " + either(depth - 1) : both(depth);
            default: return both(depth);
        }
    }

    private String both(int depth) { return random.nextInt(8) == 0 && depth > 0 ? denial(depth) + " and " + both(depth - 1) : denial(depth); }

    private String denial(int depth) {
        int r = random.nextInt(10);
        if (r == 0) return "not " + denial(depth);
        if (r == 1) return sum(depth) + "<" + sum(depth);
        if (r == 2) return sum(depth) + "=" + sum(depth);
        return sum(depth);
    }

    private String sum(int depth) {
        int r = random.nextInt(3);
        return r == 0 || depth == 0 ? term(depth) : sum(depth - 1) + (r == 1 ? "+" : "-") + term(depth - 1);
    }

    private String term(int depth) { return random.nextInt(3) == 0 && depth > 0 ? term(depth - 1) + "*" + factor(depth - 1) : factor(depth); }

    private String factor(int depth) {
        int r = random.nextInt(12);
        if (r == 0) return "-" + factor(depth);
        if (r <= 2 && depth > 0) return "(" + either(depth - 1) + ")";
        if (r <= 6) return "" + (random.nextInt(4) == 0 ? random.nextInt(10000) : random.nextInt(20));
        return Model.Parser.NAMES.get(random.nextInt(6));
    }
}
