import java.util.ArrayList;
import java.util.List;
import java.util.function.ToLongFunction;

/**
 * Refusals change nothing, and neither does what is asked or thought of alone: each such call is made on an object
 * in which something of everything is, and all that can be told of it then is as of one that was left alone.
 */
public final class RefusalTest extends Given {
    private static final int LOW = Integer.MIN_VALUE, HIGH = Integer.MAX_VALUE;
    private static final String TAPE = "sticks 3;lasts word+2;shames 7*gap", TAPE_END = "+stuck;";
    private static List<Long> untouched;
    private static int calls = 0;

    private RefusalTest() { }

    public static void main(String[] args) {
        untouched = ledger(livedIn());
        due("the ledger is long (" + untouched.size() + ")", untouched.size() > 200 ? 1 : 0, 1);
        ranges();
        states();
        full();
        host();
        asked();
        seen();
        System.out.println(calls + " calls that change nothing");
        Check.end();
    }

    private static void due(String call, long got, long want) { Check.due(call, got, want); }

    // ---- an object in which something of everything is, and all that can be told of it

    private static AWordStuck livedIn() {
        AWordStuck x = new AWordStuck();
        x.man(MAN, 4);
        x.man(FLOSSER, 7);
        Check.read(x, "sticks word+stuck;lasts 6+gap;shames 9+number;");
        x.force(1);
        x.set(0, 0, 33);
        x.fill(0, 2, 9, 99);
        x.fill(1, 0, 4, 2);
        x.live();
        x.image();
        x.man(BISHOP, 2);
        x.set(1, 0, 1 << 10 | 1 << 12);
        x.set(2, 1, 5);
        x.fill(0, 9, 15, 3);
        x.fill(1, 3, 0, 8);
        x.fill(2, 3, 1, 0);
        x.fill(2, 8, 2, 3);
        x.live();
        x.fill(0, 4, 6, 1);
        x.film(0, 0);
        row(x, 1, 1, 0, 0, 5, 2, 3, 0, 0, 0, 2, 2, 0, 0);
        row(x, 2, 2, 5, 1, 2, 8);
        Check.feed(x, TAPE);
        return x;
    }

    private static List<Long> ledger(AWordStuck x) {
        List<Long> all = new ArrayList<>();
        people(x, all);
        for (int sheet = 0; sheet < 4; sheet++) {
            for (int sort = 0; sort < 3; sort++) all.add((long) x.people(sheet, sort, 0, 0));
            for (int n : new int[] {4, 5, 10, 11, 12, 13}) all.add((long) x.copy(sheet, 0, sheet, 0, n));
        }
        all.add((long) x.tells(0, 0, 0));
        all.add((long) x.plan(1, 0));
        all.add((long) x.plan(1, 1));
        Check.feed(x, TAPE_END);
        all.add((long) x.text());
        all.add((long) x.force(2));
        for (int what = 0; what < 5; what++) all.add((long) x.run(60, what));
        all.add((long) x.people(2, 2, 0, 2));
        people(x, all);
        all.add((long) x.back());
        people(x, all);
        for (int what = 0; what < 5; what++) all.add((long) x.run(60, what));
        all.add((long) x.live());
        return all;
    }

    private static void people(AWordStuck x, List<Long> all) {
        for (int what = 0; what < 6; what++) all.add((long) x.count(what));
        for (int what = 0; what < 2; what++) all.add((long) x.told(0, what));
        for (int one = 0; one < x.count(0); one++) {
            for (int what = 2; what < 5; what++) all.add((long) x.told(one, what));
            for (int gap = 0; gap < 10; gap++) {
                int word = x.told(one, 10 + gap);
                all.add((long) word);
                if (word == NONE) continue;
                all.add((long) x.told(one, 20 + gap));
                all.add((long) x.told(one, 30 + gap));
            }
        }
    }

    /** The call answers that, and all that can be told then is as it was. */
    private static void same(String call, ToLongFunction<AWordStuck> made, long want) {
        AWordStuck x = livedIn();
        due(call, made.applyAsLong(x), want);
        unchanged(call, x);
    }

    /** The same of a call that may answer whatever it does. */
    private static void ask(String call, ToLongFunction<AWordStuck> made) {
        AWordStuck x = livedIn();
        long first = made.applyAsLong(x);
        due(call + " again", made.applyAsLong(x), first);
        unchanged(call, x);
    }

    private static void unchanged(String call, AWordStuck x) {
        calls++;
        List<Long> now = ledger(x);
        int at = NONE;
        for (int i = Math.max(now.size(), untouched.size()) - 1; i >= 0; i--) {
            boolean like = i < now.size() && i < untouched.size() && now.get(i).equals(untouched.get(i));
            if (!like) at = i;
        }
        due(call + " changed row", at, NONE);
    }

    // ---- numbers that are none such, one at a time

    private interface Call { long of(AWordStuck x, int[] a); }

    /** Each argument just and far outside of its bounds (a row: first, last), the others as they are good. */
    private static void bounds(String name, Call call, long refused, int[] good, int[]... bounds) {
        for (int i = 0; i < good.length; i++) {
            if (bounds[i] == null) continue;
            for (int v : new int[] {bounds[i][0] - 1, bounds[i][1] + 1, LOW, HIGH}) {
                int[] a = good.clone();
                a[i] = v;
                same(name + " with " + v + " at " + i, x -> call.of(x, a), refused);
            }
        }
    }

    private static int[] to(int first, int last) { return new int[] {first, last}; }

    private static int[] good(int... a) { return a; }

    private static void ranges() {
        int[] one = to(0, 2), word = to(0, 15), food = to(0, 9), gap = to(0, 9), n = to(0, 60), half = to(0, 1), sheet = to(0, 3);
        bounds("set", (x, a) -> x.set(a[0], a[1], a[2]), BAD, good(0, 0, 5), to(0, 2), null, to(0, 999));
        bounds("set", (x, a) -> x.set(a[0], a[1], a[2]), BAD, good(1, 0, 5), null, null, to(0, (1 << 24) - 1));
        bounds("set", (x, a) -> x.set(a[0], a[1], a[2]), BAD, good(2, 0, 5), null, one, to(0, 9));
        bounds("man", (x, a) -> x.man(a[0], a[1]), BAD, good(0, 0), to(0, 5), to(0, 9));
        bounds("told", (x, a) -> x.told(a[0], a[1]), BAD, good(0, 2), one, to(0, 39));
        bounds("told", (x, a) -> x.told(a[0], a[1]), BAD, good(0, 39), one, null);
        for (int i = 5; i < 10; i++) { int what = i; same("told " + what, x -> x.told(0, what), BAD); }
        bounds("fill", (x, a) -> x.fill(a[0], a[1], a[2], a[3]), BAD, good(0, 0, 0, 0), one, gap, to(-1, 15), to(0, 999));
        bounds("feed", (x, a) -> x.feed(a[0]), BAD, good(0), to(0, 255));
        bounds("force", (x, a) -> x.force(a[0]), BAD, good(0), to(0, 1));
        bounds("say", (x, a) -> x.say(a[0], a[1], a[2]), BAD, good(0, 0, 0), one, word, food);
        bounds("floss", (x, a) -> x.floss(a[0], a[1]), BAD, good(0, 4), one, gap);
        bounds("kiss", (x, a) -> x.kiss(a[0], a[1]), BAD, good(0, 1), one, one);
        for (int i = 0; i < 3; i++) { int who = i; same("kiss " + who + " himself", x -> x.kiss(who, who), BAD); }
        bounds("run", (x, a) -> x.run(a[0], a[1]), BAD, good(9, 0), n, to(0, 4));
        bounds("off", (x, a) -> x.off(a[0], a[1], a[2]), BAD, good(0, 4, 9), one, gap, n);
        bounds("foods", (x, a) -> x.foods(a[0], a[1], a[2]), BAD, good(0, 4, 9), one, word, gap);
        bounds("best", (x, a) -> x.best(a[0], a[1]), BAD, good(9, 0), n, half);
        bounds("few", (x, a) -> x.few(a[0], a[1], a[2]), BAD, good(0, 9, 0), one, n, to(0, 9999));
        bounds("kissing", (x, a) -> x.kissing(a[0], a[1]), BAD, good(9, 0), n, half);
        bounds("church", (x, a) -> x.church(a[0], a[1]), BAD, good(9, 0), n, half);
        bounds("plan", (x, a) -> x.plan(a[0], a[1]), BAD, good(1, 0), sheet, half);
        bounds("tells", (x, a) -> x.tells(a[0], a[1], a[2]), BAD, good(0, 0, 0), sheet, one, to(0, 39));
        for (int what = 4; what < 10; what++) { int w = what; same("tells " + w, x -> x.tells(0, 0, w), BAD); }
        bounds("film", (x, a) -> x.film(a[0], a[1]), BAD, good(1, 0), sheet, one);
        bounds("drawn", (x, a) -> x.drawn(a[0], a[1], a[2]), BAD, good(0, 0, 9), one, null, to(0, 16));
        bounds("chance", (x, a) -> x.chance(a[0], a[1], a[2], a[3]), AWordStuck.NO, good(0, 0, 9, 0), one, null, to(1, 20), half);
        bounds("count", (x, a) -> x.count(a[0]), BAD, good(0), to(0, 5));
        bounds("taken", (x, a) -> x.taken(a[0], a[1]), BAD, good(0, 0), null, to(0, 5));
        bounds("taken", (x, a) -> x.taken(a[0], a[1]), -11, good(0, 0), one, null);
    }

    // ---- refusals of a state

    private static void states() {
        same("say where something is", x -> x.say(0, 2, 0), NONE);
        same("say where something is, by its last FOOD", x -> x.say(0, 2, 9), NONE);
        same("floss where nothing is", x -> x.floss(0, 0), NONE);
        same("nothing where nothing is", x -> x.fill(0, 0, NONE, 999), NONE);
        AWordStuck late = livedIn();
        AWordStuck other = livedIn();
        late.set(0, 0, 999);
        other.set(0, 0, 999);
        due("live at 999", late.live(), STATE);
        due("live at 999 changes nothing", ledger(late).equals(ledger(other)) ? 1 : 0, 1);
        AWordStuck none = of(MAN);
        none.fill(0, 3, 4, 5);
        due("back without an image", none.back(), STATE);
        due("changes nothing", none.told(0, 13) * 100 + none.told(0, 23), 405);
    }

    /** FULL, with all that can be full. */
    private static void full() {
        AWordStuck x = livedIn();
        AWordStuck other = livedIn();
        for (AWordStuck y : new AWordStuck[] {x, other}) {
            y.text();
            for (int i = 0; i < 4; i++) Check.read(y, "sticks 1;lasts 1;shames 1;");
            for (int i = 0; i < 160; i++) y.feed('a');
            y.man(OLD, 1);
            y.man(OLD, 1);
        }
        due("man", x.man(MAN, 9), FULL);
        due("feed", x.feed('b'), FULL);
        due("text", x.text(), FULL);
        due("man of kind 6", x.man(6, 0), BAD);
        due("feed of 256", x.feed(256), BAD);
        due("force of 6", x.force(6), BAD);
        List<Long> first = new ArrayList<>(), second = new ArrayList<>();
        people(x, first);
        people(other, second);
        due("FULL changes nothing", first.equals(second) ? 1 : 0, 1);
        due("six TEXTS", x.count(3), 6);
        due("160 bytes", x.count(4), 160);
    }

    // ---- the host's refusals, in their order

    private static void host() {
        for (int sheet : new int[] {-1, 4, LOW, HIGH}) {
            same("sheet " + sheet, x -> x.sheet(sheet, 0, 1), BAD);
            same("sheet " + sheet + " missing", x -> x.sheet(sheet, -1, 1), BAD);
            same("cell of " + sheet, x -> x.cell(sheet, -1, 1), BAD);
            same("copy of " + sheet, x -> x.copy(sheet, -1, 3, 0, 1), BAD);
            same("copy to " + sheet, x -> x.copy(3, -1, sheet, 0, 1), BAD);
            same("people of " + sheet, x -> x.people(sheet, 0, -1, 1), BAD);
        }
        for (int sort : new int[] {-2, 3, LOW, HIGH}) same("sheet of sort " + sort, x -> x.sheet(0, sort, -1), BAD);
        for (int sort : new int[] {-1, 3, LOW, HIGH}) same("people of sort " + sort, x -> x.people(0, sort, 0, 1), BAD);
        for (int n : new int[] {41, HIGH}) same("sheet of " + n, x -> x.sheet(0, 0, n), BAD);
        for (int n : new int[] {-1, LOW}) same("sheet of " + n, x -> x.sheet(0, 0, n), -14);
        for (int i : new int[] {-1, 10, LOW, HIGH}) same("cell " + i, x -> x.cell(0, i, 5), -12);
        same("cell of a missing one", x -> x.cell(3, 0, 5), -11);
        same("copy of a missing one", x -> x.copy(3, 0, 0, 0, 1), -11);
        same("copy to a missing one", x -> x.copy(0, 0, 3, 0, 1), -11);
        same("copy to another sort", x -> x.copy(0, 0, 1, 0, 1), -13);
        for (int n : new int[] {-1, 11, LOW, HIGH}) same("copy of " + n, x -> x.copy(0, 0, 0, 0, n), -12);
        for (int i : new int[] {-1, 10, LOW, HIGH}) same("copy from " + i, x -> x.copy(0, i, 0, 0, 1), -12);
        for (int i : new int[] {-1, 10, LOW, HIGH}) same("copy to " + i, x -> x.copy(0, 0, 0, i, 1), -12);
        for (int n : new int[] {-1, 6, LOW, HIGH}) same("people: " + n, x -> x.people(2, 2, 0, n), BAD);
        for (int i : new int[] {-1, 3, 4, LOW, HIGH}) same("people from " + i, x -> x.people(2, 2, i, 1), -12);
        same("people of another sort", x -> x.people(2, 1, 0, 1), -13);
        same("people of a missing one", x -> x.people(3, 2, 0, 1), -11);
        same("plan of a missing one", x -> x.plan(3, 0), -11);
        same("tells of a missing one", x -> x.tells(3, 0, 0), -11);
        same("plan that is none", x -> x.plan(0, 0), BAD);
        same("plan that is none", x -> x.plan(2, 0), BAD);
        same("tells of 12", x -> x.tells(1, 0, 0), BAD);
        same("taken for another KIND", x -> x.taken(0, CHILD), -13);
    }

    // ---- what is asked, or thought of alone

    private static void asked() {
        for (int i = 0; i < 5; i++) { int what = i; ask("run", x -> x.run(60, what)); }
        for (int i = 0; i < 2; i++) {
            int what = i;
            ask("best", x -> x.best(60, what));
            ask("kissing", x -> x.kissing(60, what));
            ask("church", x -> x.church(60, what));
            ask("plan", x -> x.plan(1, what));
            ask("chance", x -> x.chance(2, HIGH, 20, what));
        }
        for (int i = 0; i < 3; i++) {
            int one = i;
            ask("off", x -> x.off(one, 3, 60));
            ask("foods", x -> x.foods(one, 5, 6));
            ask("few", x -> x.few(one, 60, 20));
            ask("drawn", x -> x.drawn(one, 77, 16));
            ask("taken", x -> x.taken(one, OLD));
            for (int j = 0; j < 40; j++) { int what = j; ask("tells " + what, x -> x.tells(0, one, what)); }
            for (int j = 0; j < 40; j++) { int what = j; ask("told " + what, x -> x.told(one, what)); }
        }
        for (int i = 0; i < 6; i++) { int what = i; ask("count", x -> x.count(what)); }
        ask("copy of none", x -> x.copy(0, 10, 0, 0, 0));
        ask("people: none", x -> x.people(2, 2, 0, 0));
        ask("force of THE RULE", x -> x.force(1));
        ask("a missing SHEET, missing", x -> x.sheet(3, -1, 0));
    }

    // ---- that a change would be seen

    private static void seen() {
        seen("hour", x -> x.set(0, 0, 34));
        seen("church", x -> x.set(1, 0, 1 << 10));
        seen("number", x -> x.set(2, 2, 3));
        seen("man", x -> x.man(0, 0));
        seen("fill", x -> x.fill(0, 4, 6, 3));
        seen("feed", x -> x.feed(' '));
        seen("text", x -> x.text());
        seen("force", x -> x.force(0));
        seen("say", x -> x.say(2, 5, 0));
        seen("floss", x -> x.floss(2, 3));
        seen("kiss", x -> x.kiss(0, 1));
        seen("live", x -> x.live());
        seen("image", x -> x.image());
        seen("back", x -> x.back());
        seen("sheet", x -> x.sheet(3, 0, 0));
        seen("another sort", x -> x.sheet(2, 1, 4));
        seen("film", x -> x.film(0, 1));
        seen("cell of bytes", x -> x.cell(0, 9, 59));
        seen("cell of shorts", x -> x.cell(1, 4, 4));
        seen("cell of ints", x -> x.cell(2, 3, 7));
        seen("copy", x -> x.copy(2, 0, 2, 2, 1));
        seen("people", x -> x.people(2, 2, 0, 1));
    }

    private static void seen(String call, ToLongFunction<AWordStuck> made) {
        AWordStuck x = livedIn();
        made.applyAsLong(x);
        due(call + " is seen", ledger(x).equals(untouched) ? 1 : 0, 0);
    }
}
