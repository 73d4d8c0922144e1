import java.util.ArrayList;
import java.util.Arrays;
import java.util.List;

/**
 * The document once more, as slowly and plainly as can be: every question of what would be is answered by
 * copying all there is and letting it happen. It shares no code with the program, which is compared with it.
 */
final class Model {
    static final int NONE = -1, BAD = -2, STATE = -3, FULL = -4;
    static final long NO = -4611686018427387904L;

    interface Expr { int of(int[] names); }

    /** A man, and the kinds under him, as the document's TAKES, HOLDS, BEARS tell them. */
    static class Man {
        int takes(int v) { return v % 10; }
        int holds(int v, int number) { return v; }
        int bears(int v, int number, boolean church) { return church ? 2 * v : v; }
    }
    static class Tight extends Man {
        @Override int takes(int v) { return super.takes(v) / 2; }
        @Override int holds(int v, int number) { return super.holds(v, number) + number; }
    }
    static class Old extends Man {
        @Override int holds(int v, int number) { return super.holds(v, number) / 2; }
        @Override int bears(int v, int number, boolean church) { return super.bears(v, number, church) + number; }
    }
    static class Flosser extends Tight {
        @Override int takes(int v) { return v % 2 == 1 ? NONE : super.takes(v); }
        @Override int holds(int v, int number) { return super.holds(v, number) - 3; }
    }
    static class Bishop extends Old {
        @Override int takes(int v) { return 9 - super.takes(v); }
        @Override int bears(int v, int number, boolean church) { return super.bears(v, number, church) * (church ? 3 : 1); }
    }
    static class Child extends Man {
        @Override int takes(int v) { return v / 10; }
        @Override int holds(int v, int number) { return Math.min(9, super.holds(v, number)); }
        @Override int bears(int v, int number, boolean church) { return 0; }
    }

    static Man kindOf(int k) {
        Man[] all = {new Man(), new Tight(), new Old(), new Flosser(), new Bishop(), new Child()};
        return all[k];
    }

    static final class One {
        int kind, number;
        final int[] word = new int[10], age = new int[10];
        One(int kind, int number) { this.kind = kind; this.number = number; Arrays.fill(word, NONE); }
        One copy() {
            One c = new One(kind, number);
            for (int g = 0; g < 10; g++) { c.word[g] = word[g]; c.age[g] = age[g]; }
            return c;
        }
        int stuck() { return (int) Arrays.stream(word).filter(w -> w != NONE).count(); }
    }

    static final class All {
        int hour, church = 1024, shame, rule;
        List<One> people = new ArrayList<>();
        All copy() {
            All c = new All();
            c.hour = hour; c.church = church; c.shame = shame; c.rule = rule;
            for (One o : people) c.people.add(o.copy());
            return c;
        }
        int stuck() { return people.stream().mapToInt(One::stuck).sum(); }
    }

    All now = new All();
    All image;
    final List<Expr[]> texts = new ArrayList<>();
    List<Integer> tape = new ArrayList<>();
    final long[][] sheet = new long[4][];
    final int[] sort = new int[4];

    Model() {
        for (char c : "sticks word + food * 3 ; lasts 5 ; shames 10 ;".toCharArray()) feed(c);
        text();
    }

    // ---- the rule

    int tell(All w, int part, int[] names) { return Math.min(99, Math.max(0, texts.get(w.rule)[part].of(names))); }

    int sayIn(All w, int man, int word, int food) {
        One o = w.people.get(man);
        int gap = kindOf(o.kind).takes(tell(w, 0, new int[] {word, food, w.hour, o.number, 0, o.stuck()}));
        if (gap == NONE || o.word[gap] != NONE) return NONE;
        o.word[gap] = word;
        o.age[gap] = 0;
        return gap;
    }

    int kissIn(All w, int a, int b) {
        int n = 0;
        for (int g = 0; g < 10; g++) {
            One x = w.people.get(a), y = w.people.get(b);
            if (x.word[g] != NONE && y.word[g] == NONE) {
                y.word[g] = x.word[g]; y.age[g] = 0; x.word[g] = NONE; n++;
            }
        }
        return n;
    }

    int holds(All w, One o, int g) {
        int[] names = {o.word[g], 0, w.hour, o.number, g, o.age[g]};
        return Math.max(1, kindOf(o.kind).holds(tell(w, 1, names), o.number));
    }

    int bears(All w, One o, int g) {
        int[] names = {o.word[g], 0, w.hour, o.number, g, o.age[g]};
        boolean church = (w.church >> (w.hour % 24)) % 2 == 1;
        return kindOf(o.kind).bears(tell(w, 2, names), o.number, church);
    }

    /** An hour; each row: man, gap, word. */
    List<int[]> hourIn(All w) {
        List<int[]> off = new ArrayList<>();
        for (int m = 0; m < w.people.size(); m++) {
            One o = w.people.get(m);
            for (int g = 0; g < 10; g++) {
                if (o.word[g] == NONE) continue;
                o.age[g]++;
                if (o.age[g] < holds(w, o, g)) continue;
                w.shame += bears(w, o, g);
                off.add(new int[] {m, g, o.word[g]});
                o.word[g] = NONE;
            }
        }
        w.hour++;
        return off;
    }

    int shameIn(All w, int n) {
        All c = w.copy();
        for (int i = 0; i < n; i++) hourIn(c);
        return c.shame - w.shame;
    }

    int offIn(All w, int man, int gap, int n) {
        All c = w.copy();
        for (int i = 0; i < n; i++) for (int[] off : hourIn(c)) if (off[0] == man && off[1] == gap) return i;
        return NONE;
    }

    // ---- people, gaps

    boolean one(int m) { return m >= 0 && m < now.people.size(); }
    static boolean in(int v, int from, int to) { return v >= from && v <= to; }

    int set(int what, int of, int v) {
        int was;
        switch (what) {
            case 0: if (!in(v, 0, 999)) return BAD; was = now.hour; now.hour = v; return was;
            case 1: if (!in(v, 0, 0xFFFFFF)) return BAD; was = now.church; now.church = v; return was;
            case 2:
                if (!one(of) || !in(v, 0, 9)) return BAD;
                was = now.people.get(of).number; now.people.get(of).number = v; return was;
            default: return BAD;
        }
    }

    int man(int kind, int number) {
        if (!in(kind, 0, 5) || !in(number, 0, 9)) return BAD;
        if (now.people.size() == 5) return FULL;
        now.people.add(new One(kind, number));
        return now.people.size() - 1;
    }

    int told(int of, int what) {
        if (what == 0) return now.hour;
        if (what == 1) return now.church;
        if (!one(of)) return BAD;
        One o = now.people.get(of);
        if (what == 2) return o.number;
        if (what == 3) return o.kind;
        if (what == 4) return o.stuck();
        if (in(what, 10, 19)) return o.word[what - 10];
        if (in(what, 20, 29)) return o.word[what - 20] == NONE ? NONE : o.age[what - 20];
        if (in(what, 30, 39)) return o.word[what - 30] == NONE ? NONE : holds(now, o, what - 30);
        return BAD;
    }

    int fill(int man, int gap, int w, int hours) {
        if (!one(man) || !in(gap, 0, 9) || !in(w, -1, 15) || !in(hours, 0, 999)) return BAD;
        One o = now.people.get(man);
        int was = o.word[gap];
        o.word[gap] = w;
        o.age[gap] = hours;
        return was;
    }

    // ---- texts

    int feed(int letter) {
        if (!in(letter, 0, 255)) return BAD;
        if (tape.size() == 160) return FULL;
        tape.add(letter);
        return tape.size();
    }

    int text() {
        if (texts.size() == 6) return FULL;
        StringBuilder s = new StringBuilder();
        for (int c : tape) s.append((char) c);
        tape = new ArrayList<>();
        try {
            texts.add(new Parser(s.toString()).text());
        } catch (Fault f) {
            return -100 - f.place;
        }
        return texts.size() - 1;
    }

    static final class Fault extends Exception {
        private static final long serialVersionUID = 1L;
        final int place;
        Fault(int place) { this.place = place; }
    }

    /** Cuts the whole text into tokens first, then reads them by the document's grammar, a row a rule. */
    static final class Parser {
        static final List<String> NAMES = List.of("word", "food", "hour", "number", "gap", "stuck");
        static final List<String> KEYS = List.of("sticks", "lasts", "shames", "or", "and", "not");
        final List<String> tokens = new ArrayList<>();
        final List<Integer> places = new ArrayList<>();
        int at = 0, open = 0;

        Parser(String s) {
            int i = 0;
            while (i < s.length()) {
                char c = s.charAt(i);
                int j = i + 1;
                if (c == 32 || c == 10) { i++; continue; }
                if (c >= 'a' && c <= 'z') while (j < s.length() && s.charAt(j) >= 'a' && s.charAt(j) <= 'z') j++;
                if (c >= '0' && c <= '9') while (j < s.length() && s.charAt(j) >= '0' && s.charAt(j) <= '9') j++;
                tokens.add(s.substring(i, j));
                places.add(i);
                i = j;
            }
            tokens.add("");
            places.add(s.length());
        }

        String t() { return tokens.get(at); }
        Fault fault() { return new Fault(places.get(at)); }
        void eat(String s) throws Fault { if (!t().equals(s)) throw fault(); at++; }
        void opening() throws Fault { if (open == 5) throw fault(); open++; at++; }

        Expr[] text() throws Fault {
            Expr[] parts = new Expr[3];
            for (int p = 0; p < 3; p++) { eat(KEYS.get(p)); parts[p] = e(); eat(";"); }
            if (!t().isEmpty()) throw fault();
            return parts;
        }
        Expr e() throws Fault {
            Expr x = and();
            while (t().equals("or")) { at++; Expr a = x, b = and(); x = n -> a.of(n) != 0 | b.of(n) != 0 ? 1 : 0; }
            return x;
        }
        Expr and() throws Fault {
            Expr x = not();
            while (t().equals("and")) { at++; Expr a = x, b = not(); x = n -> a.of(n) != 0 & b.of(n) != 0 ? 1 : 0; }
            return x;
        }
        Expr not() throws Fault {
            if (t().equals("not")) { opening(); Expr a = not(); open--; return n -> a.of(n) == 0 ? 1 : 0; }
            Expr a = sum();
            if (t().equals("<")) { at++; Expr b = sum(); return n -> a.of(n) < b.of(n) ? 1 : 0; }
            if (t().equals("=")) { at++; Expr b = sum(); return n -> a.of(n) == b.of(n) ? 1 : 0; }
            return a;
        }
        Expr sum() throws Fault {
            Expr x = term();
            while (t().equals("+") || t().equals("-")) {
                int sign = t().equals("+") ? 1 : -1;
                at++;
                Expr a = x, b = term();
                x = n -> a.of(n) + sign * b.of(n);
            }
            return x;
        }
        Expr term() throws Fault {
            Expr x = one();
            while (t().equals("*")) { at++; Expr a = x, b = one(); x = n -> a.of(n) * b.of(n); }
            return x;
        }
        Expr one() throws Fault {
            if (t().matches("[0-9]{1,4}")) { int v = Integer.parseInt(t()); at++; return n -> v; }
            if (NAMES.contains(t())) { int i = NAMES.indexOf(t()); at++; return n -> n[i]; }
            if (t().equals("-")) { opening(); Expr a = one(); open--; return n -> 0 - a.of(n); }
            if (t().equals("(")) { opening(); Expr a = e(); eat(")"); open--; return a; }
            throw fault();
        }
    }

    int force(int t) {
        if (!in(t, 0, texts.size() - 1)) return BAD;
        int was = now.rule;
        now.rule = t;
        return was;
    }

    // ---- saying, flossing, kissing, hours

    int say(int man, int w, int food) {
        return !one(man) || !in(w, 0, 15) || !in(food, 0, 9) ? BAD : sayIn(now, man, w, food);
    }

    int floss(int man, int gap) { return fill(man, gap, NONE, 0); }

    int kiss(int man, int other) { return !one(man) || !one(other) || man == other ? BAD : kissIn(now, man, other); }

    int live() { return now.hour == 999 ? STATE : hourIn(now).size(); }

    int run(int n, int what) {
        if (!in(n, 0, 60) || !in(what, 0, 4)) return BAD;
        All c = now.copy();
        int offs = 0;
        int[] first = {NONE, NONE, NONE, NONE};
        for (int i = 0; i < n; i++) {
            for (int[] off : hourIn(c)) {
                if (offs++ == 0) first = new int[] {off[2], off[0], i};
            }
        }
        return what == 0 ? c.shame - now.shame : what == 1 ? offs : first[what - 2];
    }

    int off(int man, int gap, int n) {
        return !one(man) || !in(gap, 0, 9) || !in(n, 0, 60) ? BAD : offIn(now, man, gap, n);
    }

    // ---- what would be best

    int foods(int man, int w, int gap) {
        if (!one(man) || !in(w, 0, 15) || !in(gap, 0, 9)) return BAD;
        int bits = 0;
        for (int f = 0; f < 10; f++) if (sayIn(now.copy(), man, w, f) == gap) bits += 1 << f;
        return bits;
    }

    int best(int n, int what) {
        if (!in(n, 0, 60) || !in(what, 0, 1)) return BAD;
        int least = shameIn(now, n), best = NONE;
        for (int m = 0; m < now.people.size(); m++) {
            for (int g = 0; g < 10; g++) {
                All c = now.copy();
                c.people.get(m).word[g] = NONE;
                int s = shameIn(c, n);
                if (s < least) { least = s; best = 10 * m + g; }
            }
        }
        return what == 0 ? best : least;
    }

    int few(int man, int n, int shame) {
        if (!one(man) || !in(n, 0, 60) || !in(shame, 0, 9999)) return BAD;
        // Only by GAPS in which something is: another one would be one too many.
        int full = 0;
        for (int g = 0; g < 10; g++) if (now.people.get(man).word[g] != NONE) full |= 1 << g;
        for (int many = 0; many <= 10; many++) {
            for (int bits = 0; bits < 1024; bits++) {
                if (Integer.bitCount(bits) != many || (bits & ~full) != 0) continue;
                All c = now.copy();
                for (int g = 0; g < 10; g++) if ((bits >> g & 1) == 1) c.people.get(man).word[g] = NONE;
                if (shameIn(c, n) <= shame) return bits;
            }
        }
        return NONE;
    }

    int kissing(int n, int what) {
        if (!in(n, 0, 60) || !in(what, 0, 1)) return BAD;
        int least = shameIn(now, n), best = NONE;
        for (int a = 0; a < now.people.size(); a++) {
            for (int b = 0; b < now.people.size(); b++) {
                if (a == b) continue;
                All c = now.copy();
                kissIn(c, a, b);
                int s = shameIn(c, n);
                if (s < least) { least = s; best = 10 * a + b; }
            }
        }
        return what == 0 ? best : least;
    }

    int church(int n, int what) {
        if (!in(n, 0, 60) || !in(what, 0, 1)) return BAD;
        int least = Integer.MAX_VALUE, best = NONE;
        for (int h = 0; h < 24; h++) {
            All c = now.copy();
            c.church = 1 << h;
            int s = shameIn(c, n);
            if (s < least) { least = s; best = h; }
        }
        return what == 0 ? best : least;
    }

    int plan(int sh, int what) {
        if (!in(sh, 0, 3) || !in(what, 0, 1)) return BAD;
        if (sheet[sh] == null) return -11;
        long[] r = sheet[sh];
        if (r.length % 4 != 0) return BAD;
        All c = now.copy();
        for (int i = 0; i < r.length; i += 4) {
            int a = (int) r[i], b = (int) r[i + 1], d = (int) r[i + 2], e = (int) r[i + 3];
            if (a == 0 && one(b) && in(d, 0, 15) && in(e, 0, 9)) sayIn(c, b, d, e);
            else if (a == 1 && one(b) && in(d, 0, 9) && e == 0) c.people.get(b).word[d] = NONE;
            else if (a == 2 && one(b) && one(d) && b != d && e == 0) kissIn(c, b, d);
            else if (a == 3 && b == 0 && d == 0 && e == 0) hourIn(c);
            else return BAD;
        }
        return what == 0 ? c.shame - now.shame : c.stuck();
    }

    // ---- hours that were told

    boolean asTold(All w, int man, long[] r) {
        for (int g = 0; g < 10; g++) if (offIn(w, man, g, 60) != r[g]) return false;
        return true;
    }

    int tells(int sh, int man, int what) {
        if (!in(sh, 0, 3) || !one(man) || !(in(what, 0, 3) || in(what, 10, 39))) return BAD;
        if (sheet[sh] == null) return -11;
        long[] r = sheet[sh];
        if (r.length != 10) return BAD;
        if (what == 0) {
            for (int g = 0; g < 10; g++) if (offIn(now, man, g, 60) != r[g]) return g;
            return NONE;
        }
        int bits = 0;
        if (what <= 3) {
            int many = what == 1 ? 6 : what == 2 ? 10 : texts.size();
            for (int i = 0; i < many; i++) {
                All c = now.copy();
                if (what == 1) c.people.get(man).kind = i;
                if (what == 2) c.people.get(man).number = i;
                if (what == 3) c.rule = i;
                if (asTold(c, man, r)) bits += 1 << i;
            }
            return bits;
        }
        int g = what % 10;
        if (now.people.get(man).word[g] == NONE) return what >= 30 ? NONE : 0;
        if (what < 20) {
            for (int w = 0; w < 16; w++) {
                All c = now.copy();
                c.people.get(man).word[g] = w;
                if (offIn(c, man, g, 60) == r[g]) bits += 1 << w;
            }
            return bits;
        }
        int many = 0, least = NONE;
        for (int age = 60; age >= 0; age--) {
            All c = now.copy();
            c.people.get(man).age[g] = age;
            if (offIn(c, man, g, 60) == r[g]) { many++; least = age; }
        }
        return what < 30 ? many : least;
    }

    int film(int sh, int man) {
        if (!in(sh, 0, 3) || !one(man)) return BAD;
        sort[sh] = 0;
        sheet[sh] = new long[10];
        for (int g = 0; g < 10; g++) sheet[sh][g] = offIn(now, man, g, 60);
        return 10;
    }

    int drawn(int man, int seed, int n) {
        if (!one(man) || !in(n, 0, 16)) return BAD;
        All c = now.copy();
        int z = seed, stuck = 0;
        for (int w = 0; w < n; w++) {
            z = z * 1103515245 + 12345;
            if (sayIn(c, man, w, (z >>> 9) % 10) >= 0) stuck++;
        }
        return stuck;
    }

    long chance(int man, int seed, int n, int part) {
        if (!one(man) || !in(n, 1, 20) || !in(part, 0, 1)) return NO;
        int hits = 0;
        for (int i = 0; i < n; i++) if (drawn(man, seed + i, 16) >= 5) hits++;
        int g = java.math.BigInteger.valueOf(hits).gcd(java.math.BigInteger.valueOf(n)).intValue();
        return part == 0 ? hits / g : n / g;
    }

    int image() { image = now.copy(); return now.people.size(); }

    int back() {
        if (image == null) return STATE;
        now = image.copy();
        return now.people.size();
    }

    int count(int what) {
        int[] all = {now.people.size(), now.stuck(), now.shame, texts.size(), tape.size(), now.rule};
        return in(what, 0, 5) ? all[what] : BAD;
    }

    // ---- the host

    int sheet(int sh, int so, int n) {
        if (!in(sh, 0, 3) || !in(so, -1, 2)) return BAD;
        if (so == -1) { sheet[sh] = null; return 1; }
        if (n > 40) return BAD;
        if (n < 0) return -14;
        sheet[sh] = new long[n];
        sort[sh] = so;
        return 1;
    }

    int cell(int sh, int i, int v) {
        if (!in(sh, 0, 3)) return BAD;
        if (sheet[sh] == null) return -11;
        if (!in(i, 0, sheet[sh].length - 1)) return -12;
        int bits = new int[] {8, 16, 32}[sort[sh]];
        sheet[sh][i] = v << (32 - bits) >> (32 - bits);
        return 1;
    }

    int copy(int sh, int i, int other, int j, int n) {
        if (!in(sh, 0, 3) || !in(other, 0, 3)) return BAD;
        if (sheet[sh] == null || sheet[other] == null) return -11;
        if (sort[sh] != sort[other]) return -13;
        if (i < 0 || j < 0 || n < 0 || (long) i + n > sheet[sh].length || (long) j + n > sheet[other].length) return -12;
        long[] from = sheet[sh].clone();
        for (int k = 0; k < n; k++) sheet[other][j + k] = from[i + k];
        return n;
    }

    int people(int sh, int so, int from, int n) {
        if (!in(sh, 0, 3) || !in(so, 0, 2) || !in(n, 0, 5)) return BAD;
        if (sheet[sh] != null && sort[sh] != so) return -13;
        if (sheet[sh] == null) return -11;
        int came = 0;
        for (long k = from; k < from + 2L * n; k += 2) {
            if (k < 0 || k + 1 >= sheet[sh].length) return -12;
            if (man((int) sheet[sh][(int) k], (int) sheet[sh][(int) k + 1]) >= 0) came++;
        }
        return came;
    }

    int taken(int man, int k) {
        if (!in(k, 0, 5)) return BAD;
        if (!one(man)) return -11;
        One o = now.people.get(man);
        return kindOf(k).getClass().isInstance(kindOf(o.kind)) ? o.number : -13;
    }
}
