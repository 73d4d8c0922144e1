import java.io.IOException;

/**
 * The document's promises, sentence by sentence: each edge that one names is tested on an object of its own. What
 * the terms say of an edge is tested by TermEdgesTest, that a refused call changes nothing by RefusalTest.
 */
public final class PromiseEdgesTest extends Edges {
    private static final int[] NEVER = {-1, -1, -1, -1, -1, -1, -1, -1, -1, -1};
    private static final String PLAIN = "sticks 1;lasts 1;shames 1;";

    private PromiseEdgesTest() { }

    public static void main(String[] args) throws IOException {
        read();
        newObject(); set(); man(); told(); fill();
        feed(); text(); force();
        say(); floss(); kiss(); live(); run(); off();
        foods(); best(); few(); kissing(); church(); plan();
        tells(); tellsRefused(); film(); drawn(); chance(); image(); back(); count();
        sheet(); cell(); copy(); people(); taken();
        end("Promise");
    }

    private static AWordStuck withSheet(int sort, int... v) {
        AWordStuck x = of(MAN);
        row(x, 0, sort, v);
        return x;
    }

    // ---- people, gaps

    private static void newObject() {
        section("Promise 1");
        says("No PEOPLE.");
        due("count", new AWordStuck().count(0), 0);
        due("none to be told of", new AWordStuck().told(0, 2), BAD);
        due("none to say", new AWordStuck().say(0, 0, 0), BAD);
        due("none to be taken", new AWordStuck().taken(0, 0), -11);
        due("nothing is stuck", new AWordStuck().count(1), 0);
        due("each object has its own", of(MAN).count(0) + new AWordStuck().count(0), 1);
    }

    private static void set() {
        section("Promise 2");
        says("THE HOUR (what 0; of does not matter),");
        due("of the first", of(MAN).set(0, 0, 7), 0);
        due("of none", new AWordStuck().set(0, 0, 7), 0);
        due("of 5", of(MAN).set(0, 5, 7), 0);
        due("of -1", of(MAN).set(0, -1, 7), 0);
        due("of as low as can be", of(MAN).set(0, Integer.MIN_VALUE, 7), 0);
        due("of as high as can be", of(MAN).set(0, Integer.MAX_VALUE, 7), 0);
        says("CHURCH (1),");
        due("of none", new AWordStuck().set(1, 0, 0), 1024);
        due("of -1", of(MAN).set(1, -1, 7), 1024);
        says("NUMBER (2) of one of PEOPLE becomes v: what it was.");
        AWordStuck x = of(MAN, MAN);
        due("of the first", x.set(2, 0, 0), 4);
        due("of the last", x.set(2, 1, 9), 4);
        due("is 0", x.set(2, 0, 0), 0);
        due("is 9", x.set(2, 1, 9), 9);
        says("BAD.");
        due("what -1", of(MAN).set(-1, 0, 0), BAD);
        due("what 3", of(MAN).set(3, 0, 0), BAD);
        due("HOUR -1", of(MAN).set(0, 0, -1), BAD);
        due("HOUR 1000", of(MAN).set(0, 0, 1000), BAD);
        due("CHURCH -1", of(MAN).set(1, 0, -1), BAD);
        due("CHURCH 2^24", of(MAN).set(1, 0, 1 << 24), BAD);
        due("NUMBER -1", of(MAN).set(2, 0, -1), BAD);
        due("NUMBER 10", of(MAN).set(2, 0, 10), BAD);
        due("NUMBER of none", of(MAN).set(2, 1, 0), BAD);
        due("NUMBER of -1", of(MAN).set(2, -1, 0), BAD);
        due("NUMBER of nobody at all", new AWordStuck().set(2, 0, 0), BAD);
    }

    private static void man() {
        section("Promise 3");
        says("One of PEOPLE: the number.");
        due("the first", new AWordStuck().man(0, 0), 0);
        due("the fifth", of(0, 0, 0, 0).man(5, 9), 4);
        says("BAD; FULL.");
        due("kind -1", new AWordStuck().man(-1, 0), BAD);
        due("kind 6", new AWordStuck().man(6, 0), BAD);
        due("NUMBER -1", new AWordStuck().man(0, -1), BAD);
        due("NUMBER 10", new AWordStuck().man(0, 10), BAD);
        due("the sixth", of(0, 0, 0, 0, 0).man(0, 0), FULL);
        due("still five", fullHouse(), 5);
        due("a sixth of kind 6: BAD ahead", of(0, 0, 0, 0, 0).man(6, 0), BAD);
        due("a sixth with NUMBER 10: BAD ahead", of(0, 0, 0, 0, 0).man(0, 10), BAD);
        AWordStuck x = of(0, 0, 0, 0);
        x.image();
        x.man(0, 0);
        x.back();
        due("room again, when the fifth is gone", x.man(0, 0), 4);
    }

    private static int fullHouse() {
        AWordStuck x = of(0, 0, 0, 0, 0);
        x.man(0, 0);
        return x.count(0);
    }

    private static void told() {
        section("Promise 4");
        says("What 0 .. 2 as of set(),");
        due("THE HOUR, of none", new AWordStuck().told(0, 0), 0);
        due("THE HOUR, of -1", of(MAN).told(-1, 0), 0);
        due("CHURCH, of none", new AWordStuck().told(7, 1), 1024);
        due("NUMBER", of(MAN).told(0, 2), 4);
        due("NUMBER of none", of(MAN).told(1, 2), BAD);
        says("3 KIND,");
        due("the least", of(MAN).told(0, 3), 0);
        due("the most", of(CHILD).told(0, 3), 5);
        says("4 how many WORDS are STUCK;");
        due("none", of(MAN).told(0, 4), 0);
        due("ten", stuck(MAN, 10, 0).told(0, 4), 10);
        says("10 .. 19 the WORD in GAP what less 10 (NONE: nothing),");
        due("GAP 0", stuck(MAN, 1, 0).told(0, 10), 0);
        due("GAP 0, nothing", of(MAN).told(0, 10), NONE);
        due("GAP 9", stuck(MAN, 10, 0).told(0, 19), 0);
        due("GAP 9, nothing", stuck(MAN, 9, 0).told(0, 19), NONE);
        says("20 .. 29 for how many HOURS (NONE),");
        due("GAP 0, 0", stuck(MAN, 1, 0).told(0, 20), 0);
        due("GAP 0, 999", stuck(MAN, 1, 999).told(0, 20), 999);
        due("GAP 0, nothing", of(MAN).told(0, 20), NONE);
        due("GAP 9", stuck(MAN, 10, 3).told(0, 29), 3);
        due("GAP 9, nothing", stuck(MAN, 9, 3).told(0, 29), NONE);
        AWordStuck out = stuck(MAN, 1, 3);
        out.floss(0, 0);
        due("nothing any more", out.told(0, 20), NONE);
        says("30 .. 39 how long one HOLDS it (NONE).");
        due("GAP 0", stuck(MAN, 1, 0).told(0, 30), 5);
        due("GAP 0, though it is over", stuck(MAN, 1, 999).told(0, 30), 5);
        due("GAP 0, nothing", of(MAN).told(0, 30), NONE);
        due("GAP 9", stuck(TIGHT, 10, 0).told(0, 39), 9);
        due("GAP 9, nothing", stuck(TIGHT, 9, 0).told(0, 39), NONE);
        says("BAD.");
        for (int what : new int[] {-1, 5, 9, 40, Integer.MIN_VALUE, Integer.MAX_VALUE}) due("what " + what, of(MAN).told(0, what), BAD);
        for (int what : new int[] {2, 3, 4, 10, 39}) due("of none, what " + what, of(MAN).told(1, what), BAD);
        for (int what : new int[] {2, 3, 4, 10, 39}) due("of -1, what " + what, of(MAN).told(-1, what), BAD);
    }

    private static void fill() {
        section("Promise 5");
        says("A WORD is truly STUCK in a GAP (NONE: nothing is) for so many HOURS: the WORD that was (NONE).");
        due("where nothing was", of(MAN).fill(0, 0, 15, 999), NONE);
        due("where WORD 0 was", stuck(MAN, 1, 0).fill(0, 0, 15, 999), 0);
        due("nothing, where WORD 0 was", stuck(MAN, 1, 0).fill(0, 0, NONE, 0), 0);
        due("nothing, where nothing was", of(MAN).fill(0, 0, NONE, 0), NONE);
        AWordStuck x = stuck(MAN, 10, 7);
        due("the last GAP", x.fill(0, 9, 3, 0), 0);
        due("WORD", x.told(0, 19), 3);
        due("HOURS", x.told(0, 29), 0);
        x.fill(0, 9, NONE, 5);
        due("nothing is", x.told(0, 19), NONE);
        due("for no HOURS", x.told(0, 29), NONE);
        due("nine are left", x.told(0, 4), 9);
        due("what never sticks in that GAP by sticks", of(CHILD).fill(0, 9, 0, 0), NONE);
        says("BAD.");
        due("of none", of(MAN).fill(1, 0, 0, 0), BAD);
        due("of -1", of(MAN).fill(-1, 0, 0, 0), BAD);
        due("GAP -1", of(MAN).fill(0, -1, 0, 0), BAD);
        due("GAP 10", of(MAN).fill(0, 10, 0, 0), BAD);
        due("WORD -2", of(MAN).fill(0, 0, -2, 0), BAD);
        due("WORD 16", of(MAN).fill(0, 0, 16, 0), BAD);
        due("HOURS -1", of(MAN).fill(0, 0, 0, -1), BAD);
        due("HOURS 1000", of(MAN).fill(0, 0, 0, 1000), BAD);
        due("nothing for -1", of(MAN).fill(0, 0, NONE, -1), BAD);
        due("nothing for 1000", of(MAN).fill(0, 0, NONE, 1000), BAD);
    }

    // ---- texts

    private static void feed() {
        section("Promise 6");
        says("A byte (0 .. 255) comes behind THE TAPE: how many it has.");
        due("0", new AWordStuck().feed(0), 1);
        due("255", new AWordStuck().feed(255), 1);
        AWordStuck x = new AWordStuck();
        for (int i = 1; i <= 160; i++) due("byte " + i, x.feed(i), i);
        says("BAD; FULL.");
        due("-1", new AWordStuck().feed(-1), BAD);
        due("256", new AWordStuck().feed(256), BAD);
        due("byte 161", x.feed(0), FULL);
        due("256 behind 160: BAD ahead", x.feed(256), BAD);
        due("-1 behind 160: BAD ahead", x.feed(-1), BAD);
        x.text();
        due("room again, when it is read", x.feed(0), 1);
    }

    private static AWordStuck sixTexts() {
        AWordStuck x = new AWordStuck();
        for (int i = 1; i < 6; i++) Check.read(x, PLAIN);
        return x;
    }

    private static void text() {
        section("Promise 7");
        says("THE TAPE, which is empty then (by a FAULT, too), is a TEXT: its number;");
        AWordStuck x = new AWordStuck();
        due("the first", Check.read(x, PLAIN), 1);
        due("it is empty then", x.count(4), 0);
        due("by a FAULT, too", Check.read(x, "sticks"), -106);
        due("it is empty then", x.count(4), 0);
        due("a FAULT takes no number", Check.read(x, PLAIN), 2);
        AWordStuck half = of(MAN);
        Check.read(half, "sticks 1+2;lasts 3 lasts");
        half.force(Check.read(half, "sticks 7;lasts 3;shames 3;"));
        due("nothing is left of one with a FAULT", half.say(0, 0, 0), 7);
        due("the sixth", Check.read(x, PLAIN) + Check.read(x, PLAIN) + Check.read(x, PLAIN), 12);
        due("its TEXTS stay as they were", sixTexts().force(1), 0);
        says("-100 less the place of its FAULT.");
        due("an empty TAPE", new AWordStuck().text(), -100);
        due("the first byte", Check.read(new AWordStuck(), "$"), -100);
        due("behind 160 bytes", Check.read(new AWordStuck(), " ".repeat(160)), -260);
        says("FULL (ahead of all): no TEXT more has room (THE TAPE stays).");
        due("a good one", Check.read(sixTexts(), PLAIN), FULL);
        due("a FAULT", Check.read(sixTexts(), "$"), FULL);
        AWordStuck full = sixTexts();
        due("an empty TAPE", full.text(), FULL);
        Check.feed(full, "ab");
        due("two bytes", full.text(), FULL);
        due("they stay", full.count(4), 2);
        due("six TEXTS", full.count(3), 6);
    }

    private static void force() {
        section("Promise 8");
        says("A TEXT is THE RULE: which was.");
        due("TEXT 0 again", of(MAN).force(0), 0);
        AWordStuck x = sixTexts();
        due("the last", x.force(5), 0);
        due("is it", x.count(5), 5);
        due("back", x.force(0), 5);
        says("BAD.");
        due("-1", new AWordStuck().force(-1), BAD);
        due("1, of one", new AWordStuck().force(1), BAD);
        due("6, of six", sixTexts().force(6), BAD);
        AWordStuck y = new AWordStuck();
        Check.read(y, "sticks 1;lasts 1;shames 1");
        due("one with a FAULT", y.force(1), BAD);
    }

    // ---- saying, flossing, kissing, hours

    private static void say() {
        section("Promise 9");
        says("SAYING, truly: the GAP.");
        due("GAP 0", of(MAN).say(0, 0, 0), 0);
        due("GAP 9", of(MAN).say(0, 9, 0), 9);
        AWordStuck x = of(MAN);
        x.say(0, 9, 0);
        due("truly", x.told(0, 19), 9);
        says("BAD; NONE.");
        due("of none", of(MAN).say(1, 0, 0), BAD);
        due("of -1", of(MAN).say(-1, 0, 0), BAD);
        due("WORD -1", of(MAN).say(0, -1, 0), BAD);
        due("WORD 16", of(MAN).say(0, 16, 0), BAD);
        due("FOOD -1", of(MAN).say(0, 0, -1), BAD);
        due("FOOD 10", of(MAN).say(0, 0, 10), BAD);
        due("something is there", stuck(MAN, 1, 0).say(0, 0, 0), NONE);
        due("a FLOSSER's odd one", of(FLOSSER).say(0, 1, 0), NONE);
        due("WORD 16, all full: BAD ahead", stuck(MAN, 10, 0).say(0, 16, 0), BAD);
    }

    private static void floss() {
        section("Promise 10");
        says("FLOSSING, truly: the WORD that is out (NONE).");
        due("WORD 0", stuck(MAN, 1, 0).floss(0, 0), 0);
        AWordStuck x = of(MAN);
        x.fill(0, 9, 15, 0);
        due("WORD 15", x.floss(0, 9), 15);
        due("truly", x.count(1), 0);
        due("no SHAME", x.count(2), 0);
        due("nothing is there", x.floss(0, 9), NONE);
        says("BAD.");
        due("of none", of(MAN).floss(1, 0), BAD);
        due("of -1", of(MAN).floss(-1, 0), BAD);
        due("GAP -1", of(MAN).floss(0, -1), BAD);
        due("GAP 10", of(MAN).floss(0, 10), BAD);
    }

    private static void kiss() {
        section("Promise 11");
        says("KISSING, truly: how many came over.");
        AWordStuck x = of(MAN, MAN);
        due("none", x.kiss(0, 1), 0);
        for (int gap = 0; gap < 10; gap++) x.fill(1, gap, gap, 4);
        due("all ten", x.kiss(1, 0), 10);
        due("truly", x.told(0, 4), 10);
        due("none goes off in 4", x.run(4, 1), 0);
        x.fill(1, 5, 0, 0);
        due("nine of ten", x.kiss(0, 1), 9);
        says("BAD: no such, one and the same.");
        due("of none", of(MAN, MAN).kiss(2, 0), BAD);
        due("of -1", of(MAN, MAN).kiss(-1, 0), BAD);
        due("none is kissed", of(MAN, MAN).kiss(0, 2), BAD);
        due("-1 is kissed", of(MAN, MAN).kiss(0, -1), BAD);
        due("one and the same", of(MAN, MAN).kiss(1, 1), BAD);
        due("none and the same", of(MAN, MAN).kiss(2, 2), BAD);
    }

    private static void live() {
        section("Promise 12");
        says("AN HOUR, truly: how many GO OFF.");
        due("of nobody", new AWordStuck().live(), 0);
        due("none", stuck(MAN, 10, 3).live(), 0);
        due("ten", stuck(MAN, 10, 4).live(), 10);
        AWordStuck all = of(MAN, MAN, MAN, MAN, MAN);
        for (int i = 0; i < 50; i++) all.fill(i / 10, i % 10, 0, 999);
        due("all 50", all.live(), 50);
        due("truly", all.count(1), 0);
        says("STATE: THE HOUR is 999.");
        AWordStuck x = stuck(MAN, 10, 4);
        x.set(0, 0, 999);
        due("999", x.live(), STATE);
        due("none went off", x.count(1), 10);
        due("for 4 HOURS still", x.told(0, 20), 4);
        x.set(0, 0, 998);
        due("998", x.live(), 10);
        AWordStuck none = new AWordStuck();
        none.set(0, 0, 999);
        due("999, of nobody", none.live(), STATE);
    }

    private static void run() {
        section("Promise 13");
        says("n HOURS: SHAME in them (what 0), how many GO OFF (1), the first one: the WORD (2), whose (3), in which (4; NONE: none does).");
        due("SHAME, of nobody", new AWordStuck().run(60, 0), 0);
        due("how many, of nobody", new AWordStuck().run(60, 1), 0);
        for (int what = 2; what < 5; what++) due("of nobody, what " + what, new AWordStuck().run(60, what), NONE);
        for (int what = 2; what < 5; what++) due("in 0, what " + what, stuck(MAN, 10, 99).run(0, what), NONE);
        for (int what = 2; what < 5; what++) due("WORD 0 of 0 in 0, what " + what, stuck(MAN, 1, 99).run(1, what), 0);
        says("BAD.");
        due("n -1", of(MAN).run(-1, 0), BAD);
        due("n 0", of(MAN).run(0, 0), 0);
        due("n 60", of(MAN).run(60, 0), 0);
        due("n 61", of(MAN).run(61, 0), BAD);
        due("what -1", of(MAN).run(0, -1), BAD);
        due("what 5", of(MAN).run(0, 5), BAD);
    }

    private static void off() {
        section("Promise 14");
        says("In which of n HOURS what is in a GAP goes off.");
        due("the first", stuck(MAN, 10, 4).off(0, 9, 1), 0);
        due("the fifth", stuck(MAN, 10, 0).off(0, 0, 5), 4);
        says("BAD; NONE.");
        due("of none", of(MAN).off(1, 0, 1), BAD);
        due("of -1", of(MAN).off(-1, 0, 1), BAD);
        due("GAP -1", of(MAN).off(0, -1, 1), BAD);
        due("GAP 10", of(MAN).off(0, 10, 1), BAD);
        due("n -1", of(MAN).off(0, 0, -1), BAD);
        due("n 61, nothing is there: BAD ahead", of(MAN).off(0, 0, 61), BAD);
        due("n 0", stuck(MAN, 1, 99).off(0, 0, 0), NONE);
        due("n 4, in the fifth", stuck(MAN, 1, 0).off(0, 0, 4), NONE);
        due("n 60, nothing is there", of(MAN).off(0, 0, 60), NONE);
    }

    // ---- what would be best

    private static void foods() {
        section("Promise 15");
        says("WHICH FOODS.");
        due("none", of(TIGHT).foods(0, 0, 9), 0);
        due("one", of(MAN).foods(0, 0, 7), 1 << 9);
        due("a full GAP", stuck(MAN, 8, 0).foods(0, 0, 7), 0);
        says("BAD.");
        due("of none", of(MAN).foods(1, 0, 0), BAD);
        due("of -1", of(MAN).foods(-1, 0, 0), BAD);
        due("WORD -1", of(MAN).foods(0, -1, 0), BAD);
        due("WORD 16", of(MAN).foods(0, 16, 0), BAD);
        due("GAP -1", of(MAN).foods(0, 0, -1), BAD);
        due("GAP 10", of(MAN).foods(0, 0, 10), BAD);
        due("WORD 16, a full GAP: BAD ahead", stuck(MAN, 10, 0).foods(0, 16, 0), BAD);
    }

    private static void best() {
        section("Promise 16");
        says("BEST FLOSS (what 0; NONE), SHAME then (1; as so, if none).");
        due("none", of(MAN).best(60, 0), NONE);
        due("as so: 0", of(MAN).best(60, 1), 0);
        AWordStuck old = withRule("sticks 0;lasts 1;shames 0;", CHILD, OLD);
        old.fill(0, 0, 0, 0);
        due("a CHILD's, none", old.best(60, 0), NONE);
        old.fill(1, 9, 0, 0);
        due("the NUMBER alone", old.best(60, 0), 19);
        due("SHAME then", old.best(60, 1), 0);
        due("one of ten", stuck(MAN, 10, 0).best(60, 0), 0);
        due("SHAME then", stuck(MAN, 10, 0).best(60, 1), 90);
        due("too late: none", stuck(MAN, 10, 0).best(4, 0), NONE);
        says("BAD.");
        due("n -1", of(MAN).best(-1, 0), BAD);
        due("n 61", of(MAN).best(61, 0), BAD);
        due("what -1", of(MAN).best(0, -1), BAD);
        due("what 2", of(MAN).best(0, 2), BAD);
    }

    private static void few() {
        section("Promise 17");
        says("FEW (shame 0 .. 9999).");
        due("-1", of(MAN).few(0, 0, -1), BAD);
        due("0", stuck(MAN, 10, 0).few(0, 60, 0), 1023);
        due("9999", stuck(MAN, 10, 0).few(0, 60, 9999), 0);
        due("10000", of(MAN).few(0, 0, 10000), BAD);
        AWordStuck all = withRule("sticks 0;lasts 1;shames 99;", BISHOP, BISHOP, BISHOP, BISHOP, BISHOP);
        all.set(1, 0, 1);
        for (int i = 0; i < 50; i++) all.fill(i / 10, i % 10, 0, 0);
        due("SHAME above 9999", all.run(1, 0), 50 * 3 * (2 * 99 + 4));
        due("others' SHAME is too much for 9999", all.few(0, 1, 9999), NONE);
        says("BAD; NONE.");
        due("of none", of(MAN).few(1, 0, 0), BAD);
        due("of -1", of(MAN).few(-1, 0, 0), BAD);
        due("n -1", of(MAN).few(0, -1, 0), BAD);
        due("n 61", of(MAN).few(0, 61, 0), BAD);
        due("none is enough", of(MAN).few(0, 60, 0), 0);
        AWordStuck two = of(MAN, MAN);
        two.fill(0, 0, 0, 0);
        due("it is another's", two.few(1, 60, 9), NONE);
        due("BAD ahead of NONE", two.few(1, 61, 9), BAD);
    }

    private static void kissing() {
        section("Promise 18");
        says("BEST KISS (what 0; NONE), SHAME then (1; as so, if none).");
        due("of one alone", stuck(MAN, 10, 0).kissing(60, 0), NONE);
        due("as so", stuck(MAN, 10, 0).kissing(60, 1), 100);
        due("as so, of nobody", new AWordStuck().kissing(60, 1), 0);
        AWordStuck x = of(MAN, CHILD);
        for (int gap = 0; gap < 10; gap++) x.fill(0, gap, 0, 0);
        due("the first one the last", x.kissing(60, 0), 1);
        due("SHAME then", x.kissing(60, 1), 0);
        due("in thought", x.told(0, 4), 10);
        due("too late: none", x.kissing(4, 0), NONE);
        says("BAD.");
        due("n -1", of(MAN).kissing(-1, 0), BAD);
        due("n 61", of(MAN).kissing(61, 0), BAD);
        due("what -1", of(MAN).kissing(0, -1), BAD);
        due("what 2", of(MAN).kissing(0, 2), BAD);
    }

    private static void church() {
        section("Promise 19");
        says("BEST HOUR (what 0), SHAME then (1).");
        due("of nobody", new AWordStuck().church(60, 0), 0);
        due("SHAME then", new AWordStuck().church(60, 1), 0);
        AWordStuck x = stuck(MAN, 10, 99);
        x.set(0, 0, 23);
        due("23 is not to be", x.church(1, 0), 0);
        due("SHAME then", x.church(1, 1), 100);
        due("n 0", x.church(0, 1), 0);
        says("BAD.");
        due("n -1", of(MAN).church(-1, 0), BAD);
        due("n 61", of(MAN).church(61, 0), BAD);
        due("what -1", of(MAN).church(0, -1), BAD);
        due("what 2", of(MAN).church(0, 2), BAD);
    }

    private static void plan() {
        section("Promise 20");
        says("A PLAN: SHAME in it (what 0), how many are STUCK at last (1).");
        due("an empty one", withSheet(0).plan(0, 0), 0);
        due("none at last", withSheet(0).plan(0, 1), 0);
        AWordStuck x = stuck(MAN, 10, 4);
        row(x, 3, 2, 1, 0, 0, 0, 3, 0, 0, 0);
        due("flossed ahead of AN HOUR", x.plan(3, 0), 90);
        due("none at last", x.plan(3, 1), 0);
        row(x, 3, 2, 3, 0, 0, 0, 1, 0, 0, 0);
        due("flossed behind it", x.plan(3, 0), 100);
        says("BAD: SHEET, what; -11; BAD: it isn't as told.");
        due("SHEET -1", of(MAN).plan(-1, 0), BAD);
        due("SHEET 4", of(MAN).plan(4, 0), BAD);
        due("what -1", withSheet(0).plan(0, -1), BAD);
        due("what 2", withSheet(0).plan(0, 2), BAD);
        due("missing", of(MAN).plan(0, 0), -11);
        due("what 2 of a missing one: BAD ahead", of(MAN).plan(0, 2), BAD);
        due("missing again", missingAgain().plan(0, 0), -11);
        due("one number", withSheet(0, 3).plan(0, 0), BAD);
        due("39 numbers", withSheet(0, new int[39]).plan(0, 0), BAD);
        due("40 numbers", withSheet(0, new int[40]).plan(0, 0), 0);
        due("the last row is wrong", withSheet(0, 3, 0, 0, 0, 3, 0, 0, 1).plan(0, 0), BAD);
        due("a byte of 259 is 3", withSheet(0, 259, 256, 0, 0).plan(0, 0), 0);
        due("a short of 259 is not", withSheet(1, 259, 0, 0, 0).plan(0, 0), BAD);
        due("an int as high as can be", withSheet(2, Integer.MAX_VALUE, 0, 0, 0).plan(0, 0), BAD);
        due("an int as low as can be", withSheet(2, 0, Integer.MIN_VALUE, 0, 0).plan(0, 0), BAD);
    }

    private static AWordStuck missingAgain() {
        AWordStuck x = withSheet(0, 3, 0, 0, 0);
        x.sheet(0, -1, 0);
        return x;
    }

    // ---- hours that were told

    private static void tells() {
        section("Promise 21");
        says("TOLD: the first GAP that is otherwise (what 0; NONE), KINDS (1), NUMBERS (2), TEXTS (3),");
        due("none", withSheet(0, NEVER).tells(0, 0, 0), NONE);
        AWordStuck x = withSheet(2, 1, -1, -1, -1, -1, -1, -1, -1, -1, 1);
        due("the first", x.tells(0, 0, 0), 0);
        x.cell(0, 0, -1);
        due("the last", x.tells(0, 0, 0), 9);
        due("KINDS", withSheet(0, NEVER).tells(0, 0, 1), 63);
        due("NUMBERS", withSheet(0, NEVER).tells(0, 0, 2), 1023);
        due("TEXTS", withSheet(0, NEVER).tells(0, 0, 3), 1);
        due("KINDS by none", x.tells(0, 0, 1), 0);
        due("NUMBERS by none", x.tells(0, 0, 2), 0);
        due("TEXTS by none", x.tells(0, 0, 3), 0);
        says("WORDS in GAP what less 10 (10 .. 19),");
        AWordStuck w = stuck(MAN, 10, 0);
        row(w, 0, 0, 4, 0, 0, 0, 0, 0, 0, 0, 0, 4);
        due("GAP 0", w.tells(0, 0, 10), 0xFFFF);
        due("GAP 8", w.tells(0, 0, 18), 0);
        due("GAP 9", w.tells(0, 0, 19), 0xFFFF);
        says("AGES: how many (20 .. 29), the least (30 .. 39; NONE);");
        due("GAP 0", w.tells(0, 0, 20), 1);
        due("GAP 8, 4 .. 60", w.tells(0, 0, 28), 57);
        due("GAP 9", w.tells(0, 0, 29), 1);
        due("the least of GAP 0", w.tells(0, 0, 30), 0);
        due("the least of GAP 8", w.tells(0, 0, 38), 4);
        due("the least of GAP 9", w.tells(0, 0, 39), 0);
        w.cell(0, 9, 5);
        due("none", w.tells(0, 0, 29), 0);
        due("no least", w.tells(0, 0, 39), NONE);
        says("of a GAP in which nothing is 0, 0, NONE.");
        for (int gap : new int[] {0, 9}) {
            due("WORDS", withSheet(0, NEVER).tells(0, 0, 10 + gap), 0);
            due("AGES", withSheet(0, NEVER).tells(0, 0, 20 + gap), 0);
            due("the least", withSheet(0, NEVER).tells(0, 0, 30 + gap), NONE);
        }
        AWordStuck out = stuck(MAN, 1, 0);
        row(out, 0, 0, NEVER);
        out.floss(0, 0);
        due("nothing any more", out.tells(0, 0, 10), 0);
    }

    private static void tellsRefused() {
        says("BAD: SHEET, none of PEOPLE, what; -11; BAD: it doesn't tell 10.");
        due("SHEET -1", of(MAN).tells(-1, 0, 0), BAD);
        due("SHEET 4", of(MAN).tells(4, 0, 0), BAD);
        due("of none", withSheet(0, NEVER).tells(0, 1, 0), BAD);
        due("of -1", withSheet(0, NEVER).tells(0, -1, 0), BAD);
        for (int what : new int[] {-1, 4, 9, 40}) due("what " + what, withSheet(0, NEVER).tells(0, 0, what), BAD);
        due("missing", of(MAN).tells(0, 0, 0), -11);
        due("missing, what 39", of(MAN).tells(0, 0, 39), -11);
        due("missing, of none: BAD ahead", of(MAN).tells(0, 1, 0), BAD);
        due("missing, what 4: BAD ahead", of(MAN).tells(0, 0, 4), BAD);
        due("it tells 0", withSheet(0).tells(0, 0, 0), BAD);
        due("it tells 9", withSheet(0, new int[9]).tells(0, 0, 0), BAD);
        due("it tells 11", withSheet(0, new int[11]).tells(0, 0, 0), BAD);
        due("it tells 9, where nothing is", withSheet(0, new int[9]).tells(0, 0, 10), BAD);
        due("it tells 40", withSheet(0, new int[40]).tells(0, 0, 39), BAD);
    }

    private static void film() {
        section("Promise 22");
        says("A SHEET truly becomes in which of 60 HOURS each GAP of one goes off (bytes): 10.");
        AWordStuck x = of(MAN);
        due("a missing one", x.film(3, 0), 10);
        due("truly", x.cell(3, 9, -1), 1);
        due("no more than 10", x.cell(3, 10, -1), -12);
        due("bytes", x.people(3, 0, 0, 0), 0);
        due("all never", x.tells(3, 0, 0), NONE);
        AWordStuck y = withSheet(2, new int[40]);
        due("one of 40 ints", y.film(0, 0), 10);
        due("no more than 10", y.cell(0, 10, -1), -12);
        due("bytes", y.people(0, 0, 0, 0), 0);
        AWordStuck last = withRule("sticks 0;lasts 60;shames 0;", MAN);
        last.fill(0, 9, 0, 0);
        last.film(0, 0);
        row(last, 1, 0, -1, -1, -1, -1, -1, -1, -1, -1, -1, 59);
        due("in the last of 60", last.tells(1, 0, 0), NONE);
        due("is what was filmed", last.tells(0, 0, 0), NONE);
        AWordStuck never = withRule("sticks 0;lasts 61;shames 0;", MAN);
        never.fill(0, 9, 0, 0);
        never.film(0, 0);
        never.floss(0, 9);
        due("not in 60", never.tells(0, 0, 0), NONE);
        says("BAD.");
        due("SHEET -1", of(MAN).film(-1, 0), BAD);
        due("SHEET 4", of(MAN).film(4, 0), BAD);
        due("of none", of(MAN).film(0, 1), BAD);
        due("of -1", of(MAN).film(0, -1), BAD);
    }

    private static void drawn() {
        section("Promise 23");
        says("DRAWN.");
        due("of 0", of(MAN).drawn(0, 0, 0), 0);
        due("of 1", of(MAN).drawn(0, 0, 1), 1);
        due("of 16, no room", stuck(MAN, 10, 0).drawn(0, 0, 16), 0);
        AWordStuck x = of(MAN);
        due("of 16, some", x.drawn(0, 0, 16) > 1 ? 1 : 0, 1);
        due("in thought", x.count(1), 0);
        says("BAD: none of PEOPLE, n.");
        due("of none", of(MAN).drawn(1, 0, 0), BAD);
        due("of -1", of(MAN).drawn(-1, 0, 0), BAD);
        due("n -1", of(MAN).drawn(0, 0, -1), BAD);
        due("n 17", of(MAN).drawn(0, 0, 17), BAD);
    }

    /** A MAN, each WORD of whom sticks in the GAP of its FOOD, with so many GAPS full. */
    private static AWordStuck byFood(int full) {
        AWordStuck x = withRule("sticks food;lasts 5;shames 1;", MAN);
        for (int gap = 0; gap < full; gap++) x.fill(0, gap, 0, 0);
        return x;
    }

    /** What stands above and below the line, as 100 * above + below. */
    private static long chanceOf(int full, int seed, int n) {
        AWordStuck x = byFood(full);
        return 100 * x.chance(0, seed, n, 0) + x.chance(0, seed, n, 1);
    }

    /** How many of n seeds have 5 or more STUCK, one by one. */
    private static int hits(int full, int seed, int n) {
        AWordStuck x = byFood(full);
        int hits = 0;
        for (int i = 0; i < n; i++) if (x.drawn(0, seed + i, 16) >= 5) hits++;
        return hits;
    }

    private static void chance() {
        section("Promise 24");
        says("IN n seeds: part 0 above, 1 below the line, in lowest terms.");
        due("none of 20: 0 of 1", chanceOf(6, 0, 20), 1);
        due("all of 20: 1 of 1", chanceOf(0, 0, 20), 101);
        due("none of 1: 0 of 1", chanceOf(6, 0, 1), 1);
        due("all of 1: 1 of 1", chanceOf(0, 0, 1), 101);
        int half = 0;
        while (hits(4, half, 20) != 10) half++;
        due("10 of 20: 1 of 2", chanceOf(4, half, 20), 102);
        int some = 0;
        while (hits(4, some, 20) != 12) some++;
        due("12 of 20: 3 of 5", chanceOf(4, some, 20), 305);
        int even = 0;
        while (hits(4, even, 20) != 14) even++;
        due("14 of 20: 7 of 10", chanceOf(4, even, 20), 710);
        int odd = 0;
        while (hits(4, odd, 19) != 12) odd++;
        due("12 of 19", chanceOf(4, odd, 19), 1219);
        says("NO: none of PEOPLE, n, part.");
        due("of none", of(MAN).chance(1, 0, 1, 0), AWordStuck.NO);
        due("of -1", of(MAN).chance(-1, 0, 1, 0), AWordStuck.NO);
        due("n 0", of(MAN).chance(0, 0, 0, 0), AWordStuck.NO);
        due("n 1", of(MAN).chance(0, 0, 1, 1), 1);
        due("n 21", of(MAN).chance(0, 0, 21, 0), AWordStuck.NO);
        due("part -1", of(MAN).chance(0, 0, 1, -1), AWordStuck.NO);
        due("part 2", of(MAN).chance(0, 0, 1, 2), AWordStuck.NO);
    }

    private static void image() {
        section("Promise 25");
        says("AN IMAGE is kept: how many of PEOPLE.");
        due("none", new AWordStuck().image(), 0);
        due("five", of(0, 0, 0, 0, 0).image(), 5);
        AWordStuck x = of(MAN);
        x.image();
        x.man(MAN, 0);
        due("anew", x.image(), 2);
        due("the last one counts", x.back(), 2);
        AWordStuck y = stuck(MAN, 1, 0);
        y.image();
        y.floss(0, 0);
        y.back();
        y.back();
        due("it is kept when all is back", y.told(0, 10), 0);
        y.floss(0, 0);
        due("and again", y.back() + y.told(0, 10), 1);
    }

    private static void back() {
        section("Promise 26");
        says("All that it keeps is as in THE IMAGE: how many of PEOPLE.");
        AWordStuck none = new AWordStuck();
        none.image();
        none.man(MAN, 0);
        due("none", none.back(), 0);
        due("who came is gone", none.count(0), 0);
        AWordStuck five = of(0, 0, 0, 0, 0);
        five.image();
        due("five", five.back(), 5);
        AWordStuck x = of(MAN);
        x.image();
        Check.read(x, PLAIN);
        x.force(1);
        Check.feed(x, "ab");
        x.sheet(0, 0, 4);
        x.back();
        due("TEXTS are not kept: they stay", x.count(3), 2);
        due("THE TAPE stays", x.count(4), 2);
        due("SHEETS stay", x.cell(0, 3, 0), 1);
        due("THE RULE is kept", x.count(5), 0);
        says("STATE: there is none.");
        due("on a new object", new AWordStuck().back(), STATE);
        due("with people", of(MAN).back(), STATE);
        AWordStuck y = stuck(MAN, 3, 2);
        y.back();
        due("nothing changed", y.told(0, 4), 3);
    }

    private static void count() {
        section("Promise 27");
        says("How many: 0 PEOPLE, 1 WORDS that are STUCK, of all, 2 SHAME, 3 TEXTS, 4 bytes of THE TAPE, 5 THE RULE.");
        int[] atFirst = {0, 0, 0, 1, 0, 0};
        for (int what = 0; what < 6; what++) due("at first, " + what, new AWordStuck().count(what), atFirst[what]);
        AWordStuck x = of(MAN, MAN, MAN, MAN, MAN);
        for (int i = 0; i < 50; i++) x.fill(i / 10, i % 10, 0, 99);
        for (int i = 0; i < 5; i++) Check.read(x, PLAIN);
        for (int i = 0; i < 161; i++) x.feed(0);
        x.force(5);
        int[] full = {5, 50, 0, 6, 160, 5};
        for (int what = 0; what < 6; what++) due("full, " + what, x.count(what), full[what]);
        x.force(0);
        x.live();
        due("none is STUCK then", x.count(1), 0);
        due("SHAME then", x.count(2), 500);
        says("BAD.");
        due("what -1", new AWordStuck().count(-1), BAD);
        due("what 6", new AWordStuck().count(6), BAD);
    }

    // ---- the host

    private static void sheet() {
        section("Promise 28");
        says("A SHEET becomes a row of n of a sort, all 0, or missing (sort -1: n does not matter): 1.");
        AWordStuck x = new AWordStuck();
        due("n 0", x.sheet(0, 0, 0), 1);
        due("is not missing", x.cell(0, 0, 0), -12);
        due("n 40", x.sheet(0, 2, 40), 1);
        due("has 40", x.cell(0, 39, 7), 1);
        due("and no more", x.cell(0, 40, 7), -12);
        AWordStuck zero = withSheet(2, 1, 2, 3, 4, 5, 6, 7, 8, 9, 9);
        zero.sheet(0, 2, 10);
        for (int gap = 0; gap < 10; gap++) zero.fill(0, gap, 0, 99);
        due("all 0", zero.tells(0, 0, 0), NONE);
        for (int n : new int[] {-1, 0, 40, 41, Integer.MIN_VALUE, Integer.MAX_VALUE}) {
            AWordStuck y = withSheet(0, 1, 2, 3);
            due("missing, n " + n, y.sheet(0, -1, n), 1);
            due("is missing", y.cell(0, 0, 0), -11);
        }
        due("a missing one, missing", new AWordStuck().sheet(3, -1, 0), 1);
        says("BAD: no such SHEET, sort; n above 40; -14.");
        due("SHEET -1", new AWordStuck().sheet(-1, 0, 1), BAD);
        due("SHEET 4", new AWordStuck().sheet(4, 0, 1), BAD);
        due("SHEET 4, missing", new AWordStuck().sheet(4, -1, 1), BAD);
        due("sort -2", new AWordStuck().sheet(0, -2, 1), BAD);
        due("sort 3", new AWordStuck().sheet(0, 3, 1), BAD);
        due("n 41", new AWordStuck().sheet(0, 0, 41), BAD);
        due("n as high as can be", new AWordStuck().sheet(0, 0, Integer.MAX_VALUE), BAD);
        due("n -1", new AWordStuck().sheet(0, 0, -1), -14);
        due("n as low as can be", new AWordStuck().sheet(0, 0, Integer.MIN_VALUE), -14);
        due("SHEET 4, n -1: BAD ahead", new AWordStuck().sheet(4, 0, -1), BAD);
        due("sort 3, n -1: BAD ahead", new AWordStuck().sheet(0, 3, -1), BAD);
    }

    /** Whether that, put into a cell of that sort, is -1 there (as told of a GAP in which nothing is). */
    private static boolean isNone(int sort, int v) {
        AWordStuck x = withSheet(sort, NEVER);
        x.cell(0, 9, v);
        return x.tells(0, 0, 0) == NONE;
    }

    private static void cell() {
        section("Promise 29");
        says("Item i of a SHEET becomes v (of bytes, shorts its lowest 8, 16 bits): 1.");
        due("the first", withSheet(0, 0).cell(0, 0, 1), 1);
        due("the last", withSheet(0, new int[40]).cell(0, 39, 1), 1);
        due("a byte: 255 is -1", isNone(0, 255) ? 1 : 0, 1);
        due("a byte: 256 is 0", isNone(0, 256) ? 1 : 0, 0);
        due("a byte: 65535 is -1", isNone(0, 65535) ? 1 : 0, 1);
        due("a byte: as low as can be is 0", isNone(0, Integer.MIN_VALUE) ? 1 : 0, 0);
        due("a byte: as high as can be is -1", isNone(0, Integer.MAX_VALUE) ? 1 : 0, 1);
        due("a short: 255 is 255", isNone(1, 255) ? 1 : 0, 0);
        due("a short: 65535 is -1", isNone(1, 65535) ? 1 : 0, 1);
        due("a short: 65536 is 0", isNone(1, 65536) ? 1 : 0, 0);
        due("a short: as high as can be is -1", isNone(1, Integer.MAX_VALUE) ? 1 : 0, 1);
        due("an int: 65535 is 65535", isNone(2, 65535) ? 1 : 0, 0);
        due("an int: as high as can be is itself", isNone(2, Integer.MAX_VALUE) ? 1 : 0, 0);
        due("an int: -1", isNone(2, -1) ? 1 : 0, 1);
        AWordStuck x = new AWordStuck();
        row(x, 0, 0, 261, 265);
        due("a byte: 261 and 265 are 5 and 9", x.people(0, 0, 0, 1), 1);
        due("5", x.told(0, 3), 5);
        due("9", x.told(0, 2), 9);
        says("BAD: no such SHEET; -11; -12.");
        due("SHEET -1", new AWordStuck().cell(-1, 0, 0), BAD);
        due("SHEET 4", new AWordStuck().cell(4, 0, 0), BAD);
        due("missing", new AWordStuck().cell(0, 0, 0), -11);
        due("missing, item -1: -11 ahead", new AWordStuck().cell(0, -1, 0), -11);
        due("item -1", withSheet(0, 1, 2).cell(0, -1, 0), -12);
        due("item 2 of 2", withSheet(0, 1, 2).cell(0, 2, 0), -12);
        due("item 0 of 0", withSheet(0).cell(0, 0, 0), -12);
        due("item as high as can be", withSheet(0, 1, 2).cell(0, Integer.MAX_VALUE, 0), -12);
        due("item as low as can be", withSheet(0, 1, 2).cell(0, Integer.MIN_VALUE, 0), -12);
    }

    private static AWordStuck twoSheets(int n, int sort, int m, int other) {
        AWordStuck x = of(MAN);
        x.sheet(0, sort, n);
        x.sheet(1, other, m);
        return x;
    }

    private static void copy() {
        section("Promise 30");
        says("n numbers of a SHEET, from item i on, come to another one's item j on (as they were): n.");
        due("none", twoSheets(4, 0, 4, 0).copy(0, 0, 1, 0, 0), 0);
        due("none, behind the last", twoSheets(4, 0, 4, 0).copy(0, 4, 1, 4, 0), 0);
        due("none of none", twoSheets(0, 0, 0, 0).copy(0, 0, 1, 0, 0), 0);
        due("all", twoSheets(4, 0, 4, 0).copy(0, 0, 1, 0, 4), 4);
        due("the last", twoSheets(4, 0, 9, 0).copy(0, 3, 1, 8, 1), 1);
        due("all 40", twoSheets(40, 2, 40, 2).copy(0, 0, 1, 0, 40), 40);
        AWordStuck on = stuck(MAN, 10, 0);
        on.force(Check.read(on, "sticks 0;lasts gap+1;shames 0;"));
        row(on, 0, 0, 0, 0, 1, 2, 3, 4, 5, 6, 7, 8);
        row(on, 1, 0, 0, 1, 2, 3, 4, 5, 6, 7, 8, 9);
        due("onto itself, ahead", on.copy(0, 1, 0, 0, 9), 9);
        on.cell(0, 9, 9);
        due("as they were", on.tells(0, 0, 0), NONE);
        row(on, 0, 0, 1, 2, 3, 4, 5, 6, 7, 8, 9, 9);
        due("onto itself, behind", on.copy(0, 0, 0, 1, 9), 9);
        on.cell(0, 0, 0);
        due("as they were", on.tells(0, 0, 0), NONE);
        due("onto itself, in place", on.copy(0, 0, 0, 0, 10), 10);
        due("as they were", on.tells(0, 0, 0), NONE);
        row(on, 0, 0, 7, 7, 7, 7, 7, 7, 7, 7, 7, 7);
        on.copy(1, 0, 0, 0, 9);
        due("nine of ten: the last stays", on.tells(0, 0, 0), 9);
        on.copy(1, 9, 0, 9, 1);
        due("the last, too", on.tells(0, 0, 0), NONE);
        due("the one's stay", on.tells(1, 0, 0), NONE);
        says("BAD: no such SHEET; -11; -13: they are of unlike sorts; -12 (also with n below 0).");
        due("SHEET -1", twoSheets(4, 0, 4, 0).copy(-1, 0, 1, 0, 1), BAD);
        due("SHEET 4", twoSheets(4, 0, 4, 0).copy(4, 0, 1, 0, 1), BAD);
        due("other -1", twoSheets(4, 0, 4, 0).copy(0, 0, -1, 0, 1), BAD);
        due("other 4", twoSheets(4, 0, 4, 0).copy(0, 0, 4, 0, 1), BAD);
        due("other 4 of a missing one: BAD ahead", twoSheets(4, 0, 4, 0).copy(2, 0, 4, 0, 1), BAD);
        due("missing", twoSheets(4, 0, 4, 0).copy(2, 0, 1, 0, 1), -11);
        due("other missing", twoSheets(4, 0, 4, 0).copy(0, 0, 2, 0, 1), -11);
        due("both missing", twoSheets(4, 0, 4, 0).copy(2, 0, 3, 0, 0), -11);
        due("other missing, n -1: -11 ahead", twoSheets(4, 0, 4, 0).copy(0, 0, 2, 0, -1), -11);
        due("unlike sorts", twoSheets(4, 0, 4, 1).copy(0, 0, 1, 0, 1), -13);
        due("unlike sorts, none", twoSheets(4, 2, 4, 1).copy(0, 0, 1, 0, 0), -13);
        due("unlike sorts, n -1: -13 ahead", twoSheets(4, 0, 4, 1).copy(0, 0, 1, 0, -1), -13);
        due("n -1", twoSheets(4, 0, 4, 0).copy(0, 1, 1, 1, -1), -12);
        due("n as low as can be", twoSheets(4, 0, 4, 0).copy(0, 1, 1, 1, Integer.MIN_VALUE), -12);
        due("n as high as can be", twoSheets(4, 0, 4, 0).copy(0, 1, 1, 1, Integer.MAX_VALUE), -12);
        due("one too many of the one", twoSheets(4, 0, 9, 0).copy(0, 1, 1, 0, 4), -12);
        due("one too many for the other", twoSheets(9, 0, 4, 0).copy(0, 0, 1, 1, 4), -12);
        due("i -1", twoSheets(4, 0, 4, 0).copy(0, -1, 1, 0, 1), -12);
        due("j -1", twoSheets(4, 0, 4, 0).copy(0, 0, 1, -1, 1), -12);
        due("i -1, none", twoSheets(4, 0, 4, 0).copy(0, -1, 1, 0, 0), -12);
        due("i 5 of 4, none", twoSheets(4, 0, 4, 0).copy(0, 5, 1, 0, 0), -12);
        due("j 5 of 4, none", twoSheets(4, 0, 4, 0).copy(0, 0, 1, 5, 0), -12);
        due("i and n as high as can be", twoSheets(4, 0, 4, 0).copy(0, Integer.MAX_VALUE, 1, 0, Integer.MAX_VALUE), -12);
        due("j as high as can be", twoSheets(4, 0, 4, 0).copy(0, 0, 1, Integer.MAX_VALUE, 2), -12);
    }

    private static AWordStuck pairs(int sort, int... v) {
        AWordStuck x = new AWordStuck();
        row(x, 0, sort, v);
        return x;
    }

    private static void people() {
        section("Promise 31");
        says("PEOPLE by a SHEET that is taken for one of a sort: from one on, two by two (as of man()), n of them (0 .. 5): how many came (others are left out).");
        for (int sort = 0; sort < 3; sort++) due("of sort " + sort, pairs(sort, 1, 2).people(0, sort, 0, 1), 1);
        due("none", pairs(0, 1, 2).people(0, 0, 0, 0), 0);
        due("none of none", pairs(0).people(0, 0, 0, 0), 0);
        due("five", pairs(0, 0, 0, 1, 1, 2, 2, 3, 3, 4, 4).people(0, 0, 0, 5), 5);
        AWordStuck x = pairs(2, 7, 5, 9, 6, 0, 0, 10, -1, 3, 3, -1, 0, 0);
        due("from 1 on, one", x.people(0, 2, 1, 1), 1);
        due("KIND", x.told(0, 3), 5);
        due("NUMBER", x.told(0, 2), 9);
        due("all four others are left out", x.people(0, 2, 3, 4), 0);
        due("the last two", x.people(0, 2, 11, 1), 1);
        AWordStuck full = pairs(0, 0, 0, 6, 0, 1, 1, 2, 2, 3, 3);
        full.man(0, 0);
        full.man(0, 0);
        full.man(0, 0);
        due("room for two of four", full.people(0, 0, 0, 5), 2);
        due("no room: all are left out", full.people(0, 0, 0, 5), 0);
        due("five", full.count(0), 5);
        says("BAD: no such SHEET, sort, n; -13; -11; -12: what stood ahead came.");
        due("SHEET -1", pairs(0, 1, 2).people(-1, 0, 0, 1), BAD);
        due("SHEET 4", pairs(0, 1, 2).people(4, 0, 0, 1), BAD);
        due("sort -1", pairs(0, 1, 2).people(0, -1, 0, 1), BAD);
        due("sort -1 of a missing one", new AWordStuck().people(0, -1, 0, 1), BAD);
        due("sort 3", pairs(0, 1, 2).people(0, 3, 0, 1), BAD);
        due("n -1", pairs(0, 1, 2).people(0, 0, 0, -1), BAD);
        due("n 6", pairs(0, 1, 2).people(0, 0, 0, 6), BAD);
        due("n 6 of another sort: BAD ahead", pairs(0, 1, 2).people(0, 1, 0, 6), BAD);
        due("another sort", pairs(0, 1, 2).people(0, 1, 0, 1), -13);
        due("another sort, none", pairs(2, 1, 2).people(0, 1, 0, 0), -13);
        due("another sort, from 9: -13 ahead", pairs(2, 1, 2).people(0, 1, 9, 1), -13);
        for (int sort = 0; sort < 3; sort++) due("missing, for sort " + sort, new AWordStuck().people(0, sort, 0, 1), -11);
        due("missing, none", new AWordStuck().people(0, 0, 0, 0), -11);
        due("missing, from -1: -11 ahead", new AWordStuck().people(0, 0, -1, 1), -11);
        AWordStuck half = pairs(0, 1, 2, 3, 4, 5);
        due("the third has no NUMBER", half.people(0, 0, 0, 3), -12);
        due("what stood ahead came", half.count(0), 2);
        due("one too many", pairs(0, 1, 2).people(0, 0, 0, 2), -12);
        due("from -1", pairs(0, 1, 2).people(0, 0, -1, 1), -12);
        due("from -2, the second is there", pairs(0, 1, 2).people(0, 0, -2, 2), -12);
        due("from the last", pairs(0, 1, 2).people(0, 0, 1, 1), -12);
        due("from 2 of 2", pairs(0, 1, 2).people(0, 0, 2, 1), -12);
        due("from as high as can be", pairs(0, 1, 2).people(0, 0, Integer.MAX_VALUE, 5), -12);
        due("from as low as can be", pairs(0, 1, 2).people(0, 0, Integer.MIN_VALUE, 5), -12);
        AWordStuck crowd = pairs(0, 1, 2);
        for (int i = 0; i < 5; i++) crowd.man(0, 0);
        due("outside, with no room", crowd.people(0, 0, 0, 2), -12);
    }

    private static void taken() {
        section("Promise 32");
        says("One of PEOPLE taken for one of KIND k (0 .. 5), or one under that one (also by others between): the NUMBER.");
        for (int kind = 0; kind < 6; kind++) due("for one of his own KIND " + kind, of(kind).taken(0, kind), 4);
        due("a TIGHT for a MAN", of(TIGHT).taken(0, MAN), 4);
        due("a CHILD for a MAN", of(CHILD).taken(0, MAN), 4);
        due("a FLOSSER for a MAN, by TIGHT between", of(FLOSSER).taken(0, MAN), 4);
        due("a BISHOP for a MAN, by OLD between", of(BISHOP).taken(0, MAN), 4);
        AWordStuck x = of(MAN);
        x.set(2, 0, 0);
        due("NUMBER 0", x.taken(0, MAN), 0);
        x.set(2, 0, 9);
        due("NUMBER 9", x.taken(0, MAN), 9);
        says("BAD: k; -11: none such; -13.");
        due("k -1", of(MAN).taken(0, -1), BAD);
        due("k 6", of(MAN).taken(0, 6), BAD);
        due("k 6 of none: BAD ahead", of(MAN).taken(1, 6), BAD);
        due("none", of(MAN).taken(1, 0), -11);
        due("-1", of(MAN).taken(-1, 0), -11);
        due("of nobody", new AWordStuck().taken(0, 0), -11);
        due("a MAN for a TIGHT", of(MAN).taken(0, TIGHT), -13);
        due("an OLD for a BISHOP", of(OLD).taken(0, BISHOP), -13);
        due("a FLOSSER for an OLD", of(FLOSSER).taken(0, OLD), -13);
        due("a CHILD for a TIGHT", of(CHILD).taken(0, TIGHT), -13);
    }
}
