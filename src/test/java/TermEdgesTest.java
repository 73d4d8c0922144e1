import java.io.IOException;

/**
 * The document's terms, sentence by sentence: each edge that one names is tested on an object of its own. By the
 * first rule a MAN's WORD w by FOOD f sticks in GAP (w + 3f) modulo 10 and goes off in the fifth HOUR, 10 bad.
 */
public final class TermEdgesTest extends Edges {
    private static final int FULL_DAY = (1 << 24) - 1;

    private TermEdgesTest() { }

    public static void main(String[] args) throws IOException {
        read();
        section("Terms");
        words(); hour(); church(); people(); gaps(); numbers(); refusals();
        takes(); holds(); bears();
        tape(); tokens(); grammar(); ints(); faults(); open(); texts(); names(); bounds();
        saying(); flossing(); kissing(); anHour();
        hours(); first(); off(); foods(); bestFloss(); few(); bestKiss(); bestHour();
        plan(); told(); readBack(); drawn(); seeds(); image(); sheets();
        end("Terms");
    }

    /** Somebody of each kind by a TEXT of these three. */
    private static AWordStuck by(String sticks, String lasts, String shames, int... kinds) {
        return withRule("sticks " + sticks + ";lasts " + lasts + ";shames " + shames + ";", kinds);
    }

    // ---- people, gaps

    private static void words() {
        says("WORDS 0 .. 15.");
        due("say -1", of(MAN).say(0, -1, 0), BAD);
        due("say 0", of(MAN).say(0, 0, 0), 0);
        due("say 15", of(MAN).say(0, 15, 0), 5);
        due("say 16", of(MAN).say(0, 16, 0), BAD);
        due("fill 15", of(MAN).fill(0, 0, 15, 0), NONE);
        due("fill 16", of(MAN).fill(0, 0, 16, 0), BAD);
        says("FOODS 0 .. 9.");
        due("by -1", of(MAN).say(0, 0, -1), BAD);
        due("by 0", of(MAN).say(0, 0, 0), 0);
        due("by 9", of(MAN).say(0, 0, 9), 7);
        due("by 10", of(MAN).say(0, 0, 10), BAD);
        says("GAPS 0 .. 9.");
        due("floss -1", stuck(MAN, 10, 0).floss(0, -1), BAD);
        due("floss 0", stuck(MAN, 10, 0).floss(0, 0), 0);
        due("floss 9", stuck(MAN, 10, 0).floss(0, 9), 0);
        due("floss 10", stuck(MAN, 10, 0).floss(0, 10), BAD);
    }

    private static void hour() {
        says("THE HOUR (0 .. 999; 0 at first).");
        due("at first", new AWordStuck().told(0, 0), 0);
        due("-1", new AWordStuck().set(0, 0, -1), BAD);
        due("1000", new AWordStuck().set(0, 0, 1000), BAD);
        AWordStuck x = new AWordStuck();
        due("999", x.set(0, 0, 999), 0);
        due("is 999", x.told(0, 0), 999);
        due("back to 0", x.set(0, 0, 0), 999);
        due("is 0", x.told(0, 0), 0);
    }

    /** How bad a MAN's WORD is that goes off in that HOUR: 10, at CHURCH 20. */
    private static int badIn(int hour, int church) {
        AWordStuck x = stuck(MAN, 1, 99);
        x.set(0, 0, hour);
        x.set(1, 0, church);
        return x.run(1, 0);
    }

    /** The same for one that goes off in the tenth HOUR from THE HOUR on. */
    private static int badInTenth(int hour, int church) {
        AWordStuck x = stuck(TIGHT, 1, 0);
        x.set(2, 0, 5);
        x.set(0, 0, hour);
        x.set(1, 0, church);
        return x.run(10, 0);
    }

    private static void church() {
        says("CHURCH: hours of the day (bits 0 .. 23; 10 alone at first: 1024);");
        due("at first", new AWordStuck().told(0, 1), 1024);
        due("-1", new AWordStuck().set(1, 0, -1), BAD);
        due("no bit", new AWordStuck().set(1, 0, 0), 1024);
        due("all bits", new AWordStuck().set(1, 0, FULL_DAY), 1024);
        due("bit 24", new AWordStuck().set(1, 0, 1 << 24), BAD);
        due("bits 24 and 0", new AWordStuck().set(1, 0, (1 << 24) + 1), BAD);
        due("bit 31", new AWordStuck().set(1, 0, 1 << 31), BAD);
        for (int h = 0; h < 24; h++) {
            AWordStuck x = stuck(MAN, 1, 99);
            x.set(0, 0, h);
            due("10 alone, not " + h, x.run(1, 0), h == 10 ? 20 : 10);
        }
        says("it is CHURCH, if bit (THE HOUR modulo 24) is set.");
        due("bit 0 in 0", badIn(0, 1), 20);
        due("bit 23 in 23", badIn(23, 1 << 23), 20);
        due("bit 0 in 24", badIn(24, 1), 20);
        due("all but bit 0 in 24", badIn(24, FULL_DAY - 1), 10);
        due("bit 23 in 47", badIn(47, 1 << 23), 20);
        due("bit 0 in 48", badIn(48, 1), 20);
        due("bit 15 in 999", badIn(999, 1 << 15), 20);
        due("all but bit 15 in 999", badIn(999, FULL_DAY - (1 << 15)), 10);
        due("bit 0 in 1008, in thought", badInTenth(999, 1), 20);
        due("bit 23 in 1007, in thought", badInTenth(998, 1 << 23), 20);
        due("never", badIn(10, 0), 10);
        says("SHAME: a number (0 at first).");
        due("at first", new AWordStuck().count(2), 0);
    }

    private static void people() {
        says("PEOPLE (5 at most, numbered from 0)");
        due("none at first", new AWordStuck().told(0, 3), BAD);
        due("the first", new AWordStuck().man(MAN, 0), 0);
        due("the fifth", of(0, 0, 0, 0).man(MAN, 0), 4);
        due("the sixth", of(0, 0, 0, 0, 0).man(MAN, 0), FULL);
        due("the fifth's kind", of(0, 0, 0, 0, CHILD).told(4, 3), CHILD);
        due("no sixth", of(0, 0, 0, 0, 0).told(5, 3), BAD);
        due("none ahead of the first", of(0, 0, 0, 0, 0).told(-1, 3), BAD);
        says("have a KIND: 0 MAN, 1 TIGHT under MAN, 2 OLD under MAN, 3 FLOSSER under TIGHT, 4 BISHOP under OLD, 5 CHILD under MAN;");
        due("kind -1", new AWordStuck().man(-1, 0), BAD);
        due("kind 0", new AWordStuck().man(0, 0), 0);
        due("kind 5", new AWordStuck().man(5, 0), 0);
        due("kind 6", new AWordStuck().man(6, 0), BAD);
        due("TIGHT is under MAN", of(TIGHT).taken(0, MAN), 4);
        due("OLD is under MAN", of(OLD).taken(0, MAN), 4);
        due("FLOSSER is under TIGHT", of(FLOSSER).taken(0, TIGHT), 4);
        due("BISHOP is under OLD", of(BISHOP).taken(0, OLD), 4);
        due("CHILD is under MAN", of(CHILD).taken(0, MAN), 4);
        due("FLOSSER is not under OLD", of(FLOSSER).taken(0, OLD), -13);
        due("BISHOP is not under TIGHT", of(BISHOP).taken(0, TIGHT), -13);
        due("MAN is not under CHILD", of(MAN).taken(0, CHILD), -13);
        says("a NUMBER (0 .. 9);");
        due("-1", new AWordStuck().man(MAN, -1), BAD);
        due("0", new AWordStuck().man(MAN, 0), 0);
        due("9", new AWordStuck().man(MAN, 9), 0);
        due("10", new AWordStuck().man(MAN, 10), BAD);
    }

    private static void gaps() {
        says("in each GAP nothing (as one comes), or a WORD, STUCK there for so many HOURS (0 .. 999).");
        for (int gap = 0; gap < 10; gap++) due("as one comes, GAP " + gap, of(MAN).told(0, 10 + gap), NONE);
        due("none is stuck", of(MAN).told(0, 4), 0);
        due("for -1", of(MAN).fill(0, 0, 0, -1), BAD);
        due("for 0", stuck(MAN, 1, 0).told(0, 20), 0);
        due("for 999", stuck(MAN, 1, 999).told(0, 20), 999);
        due("for 1000", of(MAN).fill(0, 0, 0, 1000), BAD);
        AWordStuck x = by("0", "9999", "0", TIGHT);
        x.set(2, 0, 9);
        x.fill(0, 0, 0, 999);
        due("for 999 and 1 more no one HOLDS it", x.live(), 1);
        AWordStuck y = of(MAN);
        y.image();
        y.man(MAN, 4);
        for (int gap = 0; gap < 10; gap++) y.fill(1, gap, 3, 3);
        y.back();
        y.man(MAN, 4);
        due("as one comes where one went", y.told(1, 4), 0);
    }

    private static void numbers() {
        says("NONE is -1; NO, where a long is answered, -4611686018427387904.");
        due("NONE", AWordStuck.NONE, -1);
        due("NONE answered", of(MAN).floss(0, 0), -1);
        due("NO", AWordStuck.NO, -4611686018427387904L);
        due("NO answered", of(MAN).chance(0, 0, 0, 0), -4611686018427387904L);
        says("Quotients are cut toward 0.");
        due("half of 9", takes(TIGHT, 9), 4);
        due("99 by 10", takes(CHILD, 99), 9);
        due("half of 99", holds(OLD, 0, 99), 49);
    }

    private static void refusals() {
        says("Refusals, the first that the call's words name; they change nothing:");
        due("BAD ahead of FULL", of(0, 0, 0, 0, 0).man(6, 0), BAD);
        due("-11 ahead of -12", of(MAN).cell(0, -1, 0), -11);
        AWordStuck x = of(MAN);
        x.set(2, 0, 10);
        due("NUMBER is as it was", x.told(0, 2), 4);
        says("BAD (-2: a number is none such or not as told), STATE (-3), FULL (-4);");
        due("BAD: none such", of(MAN).floss(1, 0), -2);
        AWordStuck y = of(MAN);
        row(y, 0, 0, 4, 0, 0, 0);
        due("BAD: not as told", y.plan(0, 0), -2);
        due("STATE", of(MAN).back(), -3);
        due("FULL", of(0, 0, 0, 0, 0).man(0, 0), -4);
        says("the host's: -11 nothing where something is asked, -12 a place outside, -13 a thing of another sort or KIND, -14 a size below 0.");
        due("-11: a missing SHEET", of(MAN).cell(0, 0, 0), -11);
        due("-11: none of PEOPLE", of(MAN).taken(1, 0), -11);
        y.sheet(1, 1, 4);
        due("-12", y.cell(0, 4, 0), -12);
        due("-13: another sort", y.copy(0, 0, 1, 0, 1), -13);
        due("-13: another KIND", of(MAN).taken(0, OLD), -13);
        due("-14", of(MAN).sheet(0, 0, -1), -14);
    }

    // ---- the kinds

    /** In which GAP a WORD would stick of one of a KIND, sticks telling v. */
    private static int takes(int kind, int v) { return by("" + v, "5", "10", kind).say(0, 0, 0); }

    /** For how many HOURS one of a KIND and NUMBER holds a WORD, lasts telling v. */
    private static int holds(int kind, int number, int v) {
        AWordStuck x = by("0", "" + v, "0", kind);
        x.set(2, 0, number);
        x.fill(0, 0, 0, 0);
        return x.told(0, 30);
    }

    /** How bad it is when it goes off, shames telling v. */
    private static int bears(int kind, int number, int v, boolean atChurch) {
        AWordStuck x = by("0", "1", "" + v, kind);
        x.set(2, 0, number);
        x.set(1, 0, atChurch ? 1 : 0);
        x.fill(0, 0, 0, 99);
        x.live();
        return x.count(2);
    }

    private static void takes(int kind, int[] v, int... gaps) {
        for (int i = 0; i < v.length; i++) due("v " + v[i], takes(kind, v[i]), gaps[i]);
    }

    private static void takes() {
        int[] v = {0, 1, 8, 9, 10, 11, 18, 99};
        says("TAKES (in which GAP it would stick, sticks telling v 0 .. 99): MAN: v modulo 10;");
        takes(MAN, v, 0, 1, 8, 9, 0, 1, 8, 9);
        due("v 100 is 99", takes(MAN, 100), 9);
        due("v -1 is 0", takes(MAN, -1), 0);
        says("TIGHT: half (cut) of a MAN's;");
        takes(TIGHT, v, 0, 0, 4, 4, 0, 0, 4, 4);
        says("OLD: as a MAN;");
        takes(OLD, v, 0, 1, 8, 9, 0, 1, 8, 9);
        says("FLOSSER: as a TIGHT, but NONE, if v is odd;");
        takes(FLOSSER, v, 0, NONE, 4, NONE, 0, NONE, 4, NONE);
        due("v 98", takes(FLOSSER, 98), 4);
        says("BISHOP: 9 less an OLD's;");
        takes(BISHOP, v, 9, 8, 1, 0, 9, 8, 1, 0);
        says("CHILD: v by 10 (cut).");
        takes(CHILD, v, 0, 0, 0, 0, 1, 1, 1, 9);
    }

    private static void holds() {
        says("HOLDS (for how many HOURS, lasts telling v): MAN: v;");
        due("v 1", holds(MAN, 9, 1), 1);
        due("v 99", holds(MAN, 9, 99), 99);
        says("TIGHT: NUMBER more than a MAN;");
        due("NUMBER 0", holds(TIGHT, 0, 7), 7);
        due("NUMBER 9, v 0", holds(TIGHT, 9, 0), 9);
        due("NUMBER 9, v 99", holds(TIGHT, 9, 99), 108);
        says("OLD: half (cut) of a MAN's;");
        due("v 2", holds(OLD, 9, 2), 1);
        due("v 3", holds(OLD, 9, 3), 1);
        due("v 4", holds(OLD, 9, 4), 2);
        due("v 99", holds(OLD, 9, 99), 49);
        says("FLOSSER: 3 less than a TIGHT;");
        due("NUMBER 0, v 4", holds(FLOSSER, 0, 4), 1);
        due("NUMBER 0, v 5", holds(FLOSSER, 0, 5), 2);
        due("NUMBER 9, v 99", holds(FLOSSER, 9, 99), 105);
        says("BISHOP: as an OLD;");
        due("v 3", holds(BISHOP, 9, 3), 1);
        due("v 99", holds(BISHOP, 9, 99), 49);
        says("CHILD: as a MAN, 9 at most.");
        due("v 8", holds(CHILD, 5, 8), 8);
        due("v 9", holds(CHILD, 5, 9), 9);
        due("v 10", holds(CHILD, 5, 10), 9);
        due("v 99", holds(CHILD, 5, 99), 9);
        says("(HOLDS 1 at least, in the end.)");
        due("MAN, v 0", holds(MAN, 9, 0), 1);
        due("TIGHT, NUMBER 0, v 0", holds(TIGHT, 0, 0), 1);
        due("OLD, v 0", holds(OLD, 9, 0), 1);
        due("OLD, v 1", holds(OLD, 9, 1), 1);
        due("FLOSSER, NUMBER 0, v 0", holds(FLOSSER, 0, 0), 1);
        due("FLOSSER, NUMBER 0, v 3", holds(FLOSSER, 0, 3), 1);
        due("FLOSSER, NUMBER 4, v 0: in the end, not as a TIGHT", holds(FLOSSER, 4, 0), 1);
        due("FLOSSER, NUMBER 5, v 0", holds(FLOSSER, 5, 0), 2);
        due("BISHOP, v 1", holds(BISHOP, 9, 1), 1);
        due("CHILD, v 0", holds(CHILD, 9, 0), 1);
    }

    private static void bears() {
        says("BEARS (how bad it is, shames telling v, at CHURCH or not): MAN: v, at CHURCH twice that;");
        due("v 0", bears(MAN, 9, 0, true), 0);
        due("v 99", bears(MAN, 9, 99, false), 99);
        due("v 99 at CHURCH", bears(MAN, 9, 99, true), 198);
        says("TIGHT: as a MAN;");
        due("v 7", bears(TIGHT, 9, 7, false), 7);
        due("v 7 at CHURCH", bears(TIGHT, 9, 7, true), 14);
        says("OLD: NUMBER more than a MAN;");
        due("NUMBER 0", bears(OLD, 0, 7, false), 7);
        due("NUMBER 9, v 0", bears(OLD, 9, 0, false), 9);
        due("NUMBER 9, v 0 at CHURCH", bears(OLD, 9, 0, true), 9);
        due("NUMBER 9, v 99 at CHURCH", bears(OLD, 9, 99, true), 207);
        says("FLOSSER: as a TIGHT;");
        due("v 7", bears(FLOSSER, 9, 7, false), 7);
        due("v 7 at CHURCH", bears(FLOSSER, 9, 7, true), 14);
        says("BISHOP: at CHURCH three times an OLD's, else as an OLD;");
        due("NUMBER 0, v 0 at CHURCH", bears(BISHOP, 0, 0, true), 0);
        due("NUMBER 9, v 99", bears(BISHOP, 9, 99, false), 108);
        due("NUMBER 9, v 99 at CHURCH", bears(BISHOP, 9, 99, true), 621);
        says("CHILD: 0.");
        due("v 99", bears(CHILD, 9, 99, false), 0);
        due("v 99 at CHURCH", bears(CHILD, 9, 99, true), 0);
    }

    // ---- texts

    private static void tape() {
        says("A TEXT is read from THE TAPE (160 bytes at most).");
        AWordStuck x = new AWordStuck();
        for (int i = 0; i < 159; i++) x.feed(0);
        due("159", x.count(4), 159);
        due("byte 160", x.feed(0), 160);
        due("byte 161", x.feed(0), FULL);
        due("still 160", x.count(4), 160);
        AWordStuck y = new AWordStuck();
        Check.feed(y, "sticks 1;lasts 1;shames 1" + "+1".repeat(67));
        due("a TEXT of 160", y.feed(';'), 160);
        due("is read", y.text(), 1);
    }

    /** Where a TEXT has its FAULT: NONE if it has none. */
    private static int fault(String text) {
        int answer = Check.read(new AWordStuck(), text);
        return answer < -99 ? -100 - answer : answer == 1 ? NONE : answer;
    }

    /** The same of an E, its places counted from its first byte. */
    private static int faultOf(String e) {
        int place = fault("sticks " + e + ";lasts 1;shames 1;");
        return place == NONE ? NONE : place - 7;
    }

    private static void tokens() {
        says("TOKENS, each as long as can be: WORDS (a .. z),");
        due("wordword is one", faultOf("1+wordword"), 2);
        due("notword is one", faultOf("notword"), 0);
        due("1or 1 are three", faultOf("1or 1"), NONE);
        due("` ahead of a", faultOf("1`1"), 1);
        due("{ behind z", faultOf("1{1"), 1);
        due("A is none", faultOf("A"), 0);
        due("worD are two", faultOf("worD"), 0);
        due("wordD are two", faultOf("wordD"), 4);
        says("NUMBERS (as many digits as stand there, 4 at most),");
        due("one digit", telling("7", 0, 0), 7);
        due("four digits", telling("0042", 0, 0), 42);
        due("9999", telling("9999-9920", 0, 0), 79);
        due("five digits", faultOf("1+12345"), 2);
        due("five digits, all 0", faultOf("00000"), 0);
        due("as many as there are room for", fault("sticks " + "9".repeat(153)), 7);
        due("/ ahead of 0", faultOf("1/1"), 1);
        due(": behind 9", faultOf("1:1"), 1);
        says("SIGNS ( ) ; + - * < = ;");
        due("all but the last", telling("(1+2*3-4<5)=1", 0, 0), 1);
        due("' ahead of (", faultOf("1'1"), 1);
        due(", between + and -", faultOf("1,1"), 1);
        due(". behind -", faultOf("1.1"), 1);
        due("> behind =", faultOf("1>1"), 1);
        due("two signs are two", faultOf("1<=1"), 2);
        says("blanks (32, 10) may stand between.");
        due("none", telling("1+2", 0, 0), 3);
        due("32 and 10", telling(" \n 1 \n+\n\n2 \n", 0, 0), 3);
        due("ahead of all", fault(" \n sticks 1;lasts 1;shames 1;"), NONE);
        due("behind all", fault("sticks 1;lasts 1;shames 1;\n \n"), NONE);
        due("between digits", faultOf("1 2"), 2);
        due("between letters", faultOf("wo rd"), 0);
        for (int c : new int[] {0, 9, 11, 13, 31, 33, 127, 128, 160, 255}) due("not " + c, faultOf("1 " + (char) c + "+1"), 2);
    }

    private static void grammar() {
        says("TEXT: sticks E ; lasts E ; shames E ;");
        due("no sticks", fault("lasts 1;shames 1;"), 0);
        due("no lasts", fault("sticks 1;shames 1;"), 9);
        due("no shames", fault("sticks 1;lasts 1;"), 17);
        due("no last ;", fault("sticks 1;lasts 1;shames 1"), 25);
        due("no E", fault("sticks ;lasts 1;shames 1;"), 7);
        due("one more ;", fault("sticks 1;lasts 1;shames 1;;"), 26);
        due("twice", fault("sticks 1;lasts 1;shames 1;sticks 1;lasts 1;shames 1;"), 26);
        says("E: AND { or AND }.");
        due("none", telling("7", 0, 0), 7);
        due("one", telling("7 or 0", 0, 0), 1);
        due("two", telling("0 or 0 or 7", 0, 0), 1);
        due("nothing behind or", faultOf("1 or"), 4);
        due("nothing ahead of or", faultOf("or 1"), 0);
        says("AND: NOT { and NOT }.");
        due("one", telling("7 and 0", 0, 0), 0);
        due("two", telling("7 and 7 and 7", 0, 0), 1);
        due("two, the last 0", telling("7 and 7 and 0", 0, 0), 0);
        due("nothing behind and", faultOf("1 and"), 5);
        due("ahead of or", telling("1 or 1 and 0", 0, 0), 1);
        says("NOT: not NOT, or SUM, perhaps < or = and a SUM.");
        due("not", telling("not 0", 0, 0), 1);
        due("not not", telling("not not 7", 0, 0), 1);
        due("not of <", telling("not 1<1", 0, 0), 1);
        due("not of =", telling("not 2=1", 0, 0), 1);
        due("<", telling("1<2", 0, 0), 1);
        due("< of like ones", telling("2<2", 0, 0), 0);
        due("=", telling("2=2", 0, 0), 1);
        due("= of unlike ones", telling("2=3", 0, 0), 0);
        due("one < alone", faultOf("1<2<3"), 3);
        due("one = alone", faultOf("1=2=3"), 3);
        due("no not behind <", faultOf("1<not 2"), 2);
        due("nothing behind <", faultOf("1<"), 2);
        due("nothing behind not", faultOf("not"), 3);
        says("SUM: TERM { + or - TERM }.");
        due("from the left", telling("50-20-3+1", 0, 0), 28);
        due("nothing behind +", faultOf("1+"), 2);
        due("nothing ahead of +", faultOf("+1"), 0);
        due("no not behind +", faultOf("1+not 1"), 2);
        says("TERM: ONE { * ONE }.");
        due("ahead of +", telling("1+2*3*4+5", 0, 0), 30);
        due("nothing behind *", faultOf("1*"), 2);
        due("nothing ahead of *", faultOf("*1"), 0);
        says("ONE: a NUMBER, a NAME, - ONE, ( E ).");
        due("- binds ahead of *", telling("90+-2*3", 0, 0), 84);
        due("- of a -", telling("--7", 0, 0), 7);
        due("- behind *", telling("90+2*-3", 0, 0), 84);
        due("( )", telling("(1 or 0)+(not 0)", 0, 0), 2);
        due("nothing in ( )", faultOf("()"), 1);
        due("no )", faultOf("(1"), 2);
        due("no (", faultOf("1)"), 1);
        due("nothing behind -", faultOf("-"), 1);
        due("- of not", faultOf("-not 1"), 1);
        due("two ONEs", faultOf("1 word"), 2);
        says("NAMES are word food hour number gap stuck; sticks, lasts, shames, or, and, not are KEYS.");
        for (String name : new String[] {"word", "food", "hour", "number", "gap", "stuck"}) due(name, faultOf(name), NONE);
        for (String key : new String[] {"sticks", "lasts", "shames", "or", "and"}) due(key, faultOf("1+" + key), 2);
        due("a NAME for a KEY", fault("word 1;"), 0);
    }

    private static void ints() {
        says("An E is an int (32 bits, wrapping): of or, and, not, <, = 1 or 0 (what is not 0 is true).");
        due("2^31 - 1 is above 0", telling("8192*8192*32-1", 0, 0), 99);
        due("2^31 is below 0", telling("8192*8192*32", 0, 0), 0);
        due("2^31 is as low as can be", telling("8192*8192*32<0-8192*8192*31", 0, 0), 1);
        due("-2^31 - 1 is above 0", telling("0-8192*8192*32-1", 0, 0), 99);
        due("- of -2^31 is itself", telling("-(8192*8192*32)=8192*8192*32", 0, 0), 1);
        due("2^32 is 0", telling("8192*8*8192*8+7", 0, 0), 7);
        due("2^32 is not true", telling("not 8192*8*8192*8", 0, 0), 1);
        due("2^31 is true", telling("1 and 8192*8192*32", 0, 0), 1);
        due("or of 7 is 1", telling("(0 or 7)+0", 0, 0), 1);
        due("and of 7 is 1", telling("(7 and 7)+0", 0, 0), 1);
        due("not of 7 is 0", telling("not 7", 0, 0), 0);
        due("-1 is true", telling("-1 and -1", 0, 0), 1);
        due("0 is not", telling("0 or 0", 0, 0), 0);
        due("or of 0 is 0", telling("(0 or 0)+7", 0, 0), 7);
        due("and of 0 is 0", telling("(7 and 0)+7", 0, 0), 7);
        due("< is 0", telling("(2<1)+7", 0, 0), 7);
        due("= is 0", telling("(2=1)+7", 0, 0), 7);
    }

    private static void faults() {
        says("FAULT: the place of the first byte of the first TOKEN that can't stand there (the text's size, if it ends too early),");
        due("an empty one", fault(""), 0);
        due("a blank", fault(" "), 1);
        due("a KEY alone", fault("sticks"), 6);
        due("a KEY and blanks", fault("sticks \n "), 9);
        due("160 bytes", fault("sticks 1" + "+1".repeat(76)), 160);
        due("160 blanks", fault(" ".repeat(160)), 160);
        due("the last TOKEN", fault("sticks 1;lasts 1;shames 1;1"), 26);
        due("the first byte of it", fault("sticks lasts"), 7);
        due("the first of two", fault("sticks ) 12345"), 7);
        says("also of a byte that begins none,");
        due("at first", fault("$"), 0);
        due("at last", fault("sticks 1;lasts 1;shames 1;$"), 26);
        due("where none can stand", faultOf("1 $"), 2);
        says("a WORD that is neither KEY nor NAME,");
        due("at first", fault("stick 1;"), 0);
        due("one letter less", faultOf("wor"), 0);
        due("one letter more", faultOf("words"), 0);
        due("one letter", faultOf("a"), 0);
        due("another first letter", faultOf("gord"), 0);
        due("another last letter", faultOf("worz"), 0);
        due("z at last", faultOf("wordz"), 0);
        due("behind not", faultOf("not foo"), 4);
        due("behind -", faultOf("-foo"), 1);
        due("behind (", faultOf("(foo"), 1);
        due("as long as can be", fault("z".repeat(160)), 0);
        says("a NUMBER that is too long,");
        due("five digits", faultOf("10000"), 0);
        due("its first byte", faultOf("1+10000"), 2);
        due("four digits are not", faultOf("1000"), NONE);
    }

    private static void open() {
        says("a ( , a not, a - ahead of a ONE while 5 of these are open (a ( till its ) , not and - till what they belong to ends).");
        due("five (", faultOf("(((((1)))))"), NONE);
        due("six (", faultOf("((((((1))))))"), 5);
        due("five not", faultOf("not not not not not 1"), NONE);
        due("six not", faultOf("not not not not not not 1"), 20);
        due("five -", faultOf("-----1"), NONE);
        due("six -", faultOf("------1"), 5);
        due("a ( in five -", faultOf("-----(1)"), 5);
        due("a - in five (", faultOf("(((((-1)))))"), 5);
        due("a not in five (", faultOf("(((((not 1)))))"), 5);
        due("a - in five not", faultOf("not not not not not -1"), 20);
        due("a ( in five not", faultOf("not not not not not (1)"), 20);
        due("four ( and a not", faultOf("((((not 1))))"), NONE);
        due("four ( , a not and a -", faultOf("((((not -1))))"), 8);
        due("a - ahead of a TERM is none", faultOf("(((((1-1)))))"), NONE);
        due("a ( ends with its )", faultOf("(((((1)))))+(((((1)))))"), NONE);
        String level = "0or 1and 0<0+1*";
        due("all signs wait in five (", telling((level + "(").repeat(5) + level + "1)))))", 0, 0), 1);
        due("a ( is open behind *", faultOf("(((((1*(1))))))"), 7);
        due("a - ends with its ONE", faultOf("-----1*-----1"), NONE);
        due("a - ends with its ( )", faultOf("-(1)+(((((1)))))"), NONE);
        due("a not ends with its NOT", faultOf("not not not not not 1 and not not not not not 1"), NONE);
        due("a not is open behind <", faultOf("not not not not not 1<-1"), 22);
        due("a not is open behind +", faultOf("not not not not not 1+(1)"), 22);
        due("a not ends with its NOT ahead of or", faultOf("not not not not not 1 or (((((1)))))"), NONE);
    }

    private static void texts() {
        says("There are 6 TEXTS at most, TEXT 0 with them.");
        AWordStuck x = new AWordStuck();
        due("TEXT 0 alone", x.count(3), 1);
        for (int i = 1; i < 6; i++) due("TEXT " + i, Check.read(x, "sticks 1;lasts 1;shames 1;"), i);
        due("six", x.count(3), 6);
        due("no seventh", Check.read(x, "sticks 1;lasts 1;shames 1;"), FULL);
        due("force 5", x.force(5), 0);
        due("force 6", x.force(6), BAD);
    }

    private static void names() {
        says("Of one of PEOPLE and a WORD: word; food: of sticks the FOOD, of others 0; hour: THE HOUR; number: NUMBER; gap: of sticks 0, of others the GAP;"
            + " stuck: of sticks how many WORDS are STUCK in that one, of others for how many HOURS it has been.");
        due("word 0", by("word", "1", "1", CHILD).say(0, 0, 0), 0);
        due("word 15", by("word", "1", "1", CHILD).say(0, 15, 0), 1);
        due("food 9", by("food", "1", "1", MAN).say(0, 0, 9), 9);
        due("food of lasts", heldBy("food+7", 9, 5), 7);
        due("food of shames", badBy("food+7", 9, 5), 7);
        AWordStuck x = by("hour-990", "1", "1", MAN);
        x.set(0, 0, 999);
        due("hour 999", x.say(0, 0, 0), 9);
        due("number of sticks", by("number", "1", "1", MAN).say(0, 0, 0), 4);
        due("number of lasts", heldBy("number", 9, 5), 4);
        AWordStuck late = by("0", "50-hour*5", "0", MAN);
        late.fill(0, 0, 0, 0);
        due("hour of lasts: 5 in HOUR 9, the tenth", late.off(0, 0, 60), 9);
        AWordStuck old = by("0", "5+10*(stuck=5)", "0", MAN);
        old.fill(0, 0, 0, 0);
        due("stuck of lasts: 15 when it is 5", old.off(0, 0, 60), 5);
        due("gap of sticks", by("gap+3", "1", "1", MAN).say(0, 0, 0), 3);
        due("gap 0 of lasts", heldBy("gap+7", 0, 5), 7);
        due("gap 9 of lasts", heldBy("gap+7", 9, 5), 16);
        due("gap 9 of shames", badBy("gap+7", 9, 5), 16);
        due("stuck of sticks: none", by("stuck", "1", "1", MAN).say(0, 0, 0), 0);
        AWordStuck y = by("stuck", "1", "1", MAN, MAN);
        for (int gap = 0; gap < 9; gap++) y.fill(0, gap, 0, 50);
        due("stuck of sticks: nine, not the HOURS", y.say(0, 0, 0), 9);
        due("stuck of sticks: those of another do not count", y.say(1, 0, 0), 0);
        due("stuck 0 of lasts", heldBy("stuck+7", 0, 0), 7);
        due("stuck 999 of lasts", heldBy("stuck-950", 0, 999), 49);
        due("stuck 1000 of shames", badBy("stuck-950", 0, 999), 50);
        due("word of lasts", heldBy("word*9", 0, 0), 27);
        due("word of shames", badBy("word*9", 0, 0), 27);
    }

    /** How long a MAN with NUMBER 4 HOLDS WORD 3 in a GAP by an E of lasts. */
    private static int heldBy(String e, int gap, int hours) {
        AWordStuck x = by("0", e, "0", MAN);
        x.fill(0, gap, 3, hours);
        return x.told(0, 30 + gap);
    }

    /** How bad it is by an E of shames that it goes off an HOUR later. */
    private static int badBy(String e, int gap, int hours) {
        AWordStuck x = by("0", "1", e, MAN);
        x.fill(0, gap, 3, hours);
        x.live();
        return x.count(2);
    }

    private static void bounds() {
        says("sticks (0 .. 99, else the bound),");
        due("-1 is 0", telling("-1", 0, 0), 0);
        due("99", telling("99", 0, 0), 99);
        due("100 is 99", telling("100", 0, 0), 99);
        due("as low as can be", telling("8192*8192*32", 0, 0), 0);
        due("as high as can be", telling("8192*8192*32-1", 0, 0), 99);
        says("lasts (0 .. 99, else the bound),");
        due("-1 is 0, NUMBER is 4", holdsOf("-1"), 4);
        due("99", holdsOf("99"), 103);
        due("100 is 99", holdsOf("100"), 103);
        due("as low as can be", holdsOf("8192*8192*32"), 4);
        due("as high as can be", holdsOf("8192*8192*32-1"), 103);
        says("shames (0 .. 99, else the bound).");
        due("-1 is 0", badBy("-1", 0, 0), 0);
        due("99", badBy("99", 0, 0), 99);
        due("100 is 99", badBy("100", 0, 0), 99);
        due("as low as can be", badBy("8192*8192*32", 0, 0), 0);
        due("as high as can be", badBy("8192*8192*32-1", 0, 0), 99);
        says("TEXT 0, at first THE RULE, is: sticks word + food * 3 ; lasts 5 ; shames 10 ;");
        due("at first", of(MAN).count(5), 0);
        due("sticks", of(MAN).say(0, 4, 1), 7);
        due("lasts", stuck(MAN, 1, 0).told(0, 30), 5);
        due("shames", stuck(MAN, 1, 4).run(1, 0), 10);
        due("sticks tells 42 at most", of(CHILD).say(0, 15, 9), 4);
    }

    /** How long a TIGHT with NUMBER 4 HOLDS a WORD by an E of lasts. */
    private static int holdsOf(String e) {
        AWordStuck x = by("0", e, "0", TIGHT);
        x.fill(0, 0, 0, 0);
        return x.told(0, 30);
    }

    // ---- saying, flossing, kissing, hours

    private static void saying() {
        says("SAYING (one, a WORD, a FOOD): TAKES by sticks; if that is NONE, or something is STUCK there, it isn't, and is heard at once: NONE;");
        AWordStuck x = of(FLOSSER);
        due("TAKES is NONE", x.say(0, 1, 0), NONE);
        due("it is not STUCK", x.count(1), 0);
        due("nor SHAME", x.count(2), 0);
        AWordStuck y = stuck(MAN, 1, 7);
        due("something is there", y.say(0, 10, 0), NONE);
        due("that stays", y.told(0, 10), 0);
        due("for its HOURS", y.told(0, 20), 7);
        due("the same WORD is there", y.say(0, 0, 0), NONE);
        for (int w = 0; w < 16; w++) due("all GAPS are full, WORD " + w, stuck(MAN, 10, 0).say(0, w, 9), NONE);
        says("else it is STUCK there for 0 HOURS.");
        AWordStuck z = stuck(MAN, 1, 99);
        z.floss(0, 0);
        z.say(0, 0, 0);
        due("0, whatever was", z.told(0, 20), 0);
        AWordStuck last = stuck(MAN, 9, 0);
        due("in the last that is free", last.say(0, 9, 0), 9);
        due("all ten", last.told(0, 4), 10);
    }

    private static void flossing() {
        says("FLOSSING a GAP: what is there is out.");
        AWordStuck x = stuck(MAN, 10, 4);
        due("the first", x.floss(0, 0), 0);
        due("is out", x.told(0, 10), NONE);
        due("the last", x.floss(0, 9), 0);
        due("eight are left", x.told(0, 4), 8);
        due("nothing is there", x.floss(0, 9), NONE);
        due("eight are left", x.told(0, 4), 8);
        due("eight go off", x.live(), 8);
    }

    private static void kissing() {
        says("KISSING (one another one): GAP by GAP, from 0 on, a WORD that is STUCK there, if the other one has nothing there, comes over"
            + " to the other one's like GAP, STUCK for 0 HOURS (the one has nothing there then).");
        due("nothing is stuck", of(MAN, MAN).kiss(0, 1), 0);
        AWordStuck x = of(MAN, CHILD);
        for (int gap = 0; gap < 10; gap++) x.fill(0, gap, gap, 99);
        for (int gap = 0; gap < 10; gap++) x.fill(1, gap, NONE, 77);
        due("all ten", x.kiss(0, 1), 10);
        for (int gap = 0; gap < 10; gap++) due("WORD " + gap, x.told(1, 10 + gap), gap);
        for (int gap = 0; gap < 10; gap++) due("HOURS of " + gap, x.told(1, 20 + gap), 0);
        due("the one has none then", x.told(0, 4), 0);
        due("the other one's do not come back by it", x.kiss(0, 1), 0);
        due("they come back", x.kiss(1, 0), 10);
        AWordStuck y = of(MAN, MAN);
        for (int gap = 0; gap < 10; gap++) y.fill(0, gap, 1, 3);
        for (int gap = 0; gap < 10; gap++) y.fill(1, gap, 2, 4);
        due("both are full", y.kiss(0, 1), 0);
        due("the one's stay", y.told(0, 10), 1);
        due("for their HOURS", y.told(0, 29), 3);
        due("the other's stay", y.told(1, 19), 2);
        due("for their HOURS", y.told(1, 20), 4);
    }

    private static void anHour() {
        says("AN HOUR: each WORD that is STUCK, of one by one, GAP by GAP, is so for 1 HOUR more;");
        AWordStuck none = new AWordStuck();
        due("of nobody", none.live(), 0);
        AWordStuck x = of(MAN, MAN, MAN, MAN, MAN);
        x.fill(0, 0, 0, 0);
        x.fill(4, 9, 0, 3);
        due("none goes off", x.live(), 0);
        due("the first GAP of the first", x.told(0, 20), 1);
        due("the last GAP of the last", x.told(4, 29), 4);
        says("if that is what one HOLDS it for, or more, it GOES OFF:");
        due("1 less", stuck(MAN, 1, 3).live(), 0);
        due("just that", stuck(MAN, 1, 4).live(), 1);
        due("1 more", stuck(MAN, 1, 5).live(), 1);
        due("far more", stuck(MAN, 1, 999).live(), 1);
        due("all ten", stuck(MAN, 10, 4).live(), 10);
        AWordStuck grows = by("0", "stuck+1", "0", MAN);
        grows.fill(0, 0, 0, 0);
        due("what one HOLDS it for then", grows.live(), 0);
        AWordStuck same = by("0", "stuck", "0", MAN);
        same.fill(0, 0, 0, 0);
        due("what one HOLDS it for then", same.live(), 1);
        says("BEARS (stuck, THE HOUR as they are then) is added to SHAME, and it is out.");
        due("stuck is 1 more", badBy("stuck", 0, 6), 7);
        AWordStuck late = by("0", "1", "hour", MAN);
        late.set(0, 0, 7);
        late.fill(0, 0, 0, 0);
        due("THE HOUR is not yet", late.live(), 1);
        due("THE HOUR is not yet", late.count(2), 7);
        due("it is out", late.told(0, 10), NONE);
        late.fill(0, 0, 0, 0);
        late.live();
        due("is added", late.count(2), 15);
        AWordStuck ten = stuck(MAN, 1, 99);
        ten.set(0, 0, 10);
        ten.live();
        due("CHURCH as THE HOUR is", ten.count(2), 20);
        says("Then THE HOUR is 1 more.");
        due("with nobody", none.told(0, 0), 1);
        AWordStuck last = new AWordStuck();
        last.set(0, 0, 998);
        last.live();
        due("999 at most", last.told(0, 0), 999);
        due("not 1000", last.live(), STATE);
    }

    // ---- hours in thought

    private static void hours() {
        says("n HOURS (0 .. 60), in thought (there HOUR may pass 999):");
        due("-1", of(MAN).run(-1, 0), BAD);
        due("0", stuck(MAN, 1, 99).run(0, 1), 0);
        due("1", stuck(MAN, 1, 99).run(1, 1), 1);
        due("61", of(MAN).run(61, 0), BAD);
        AWordStuck x = by("0", "60", "1", MAN);
        x.fill(0, 0, 0, 0);
        due("59", x.run(59, 1), 0);
        due("60", x.run(60, 1), 1);
        due("in thought", x.told(0, 20), 0);
        due("THE HOUR stays", x.told(0, 0), 0);
        AWordStuck y = by("0", "60", "hour-1000", MAN);
        y.fill(0, 0, 0, 0);
        y.set(0, 0, 999);
        due("HOUR is 1058", y.run(60, 0), 58);
        due("THE HOUR stays", y.told(0, 0), 999);
        says("SHAME in them; how many GO OFF;");
        AWordStuck z = stuck(MAN, 10, 99);
        z.live();
        due("what was is not in them", z.run(60, 0), 0);
        due("none goes off", z.run(60, 1), 0);
        z.fill(0, 3, 0, 0);
        due("in 5", z.run(5, 0), 10);
        due("in 4", z.run(4, 0), 0);
        AWordStuck all = of(MAN, MAN, MAN, MAN, MAN);
        for (int i = 0; i < 50; i++) all.fill(i / 10, i % 10, 0, 4);
        due("all 50", all.run(1, 1), 50);
        due("all 50", all.run(1, 0), 500);
    }

    private static void first() {
        says("the first one (by HOURS, then PEOPLE, then GAPS): WORD, whose, in which of them (from 0);");
        AWordStuck x = of(MAN, MAN);
        for (int what = 2; what < 5; what++) due("none", x.run(60, what), NONE);
        x.fill(1, 9, 7, 1);
        due("just not in 3", x.run(3, 4), NONE);
        due("in 4", x.run(4, 4), 3);
        x.fill(0, 8, 6, 0);
        due("by HOURS ahead of PEOPLE", x.run(60, 2), 7);
        x.fill(0, 7, 5, 1);
        due("by PEOPLE ahead of GAPS", x.run(60, 2), 5);
        due("whose", x.run(60, 3), 0);
        x.fill(0, 6, 4, 1);
        due("by GAPS", x.run(60, 2), 4);
        x.fill(1, 0, 3, 999);
        due("in the first of them", x.run(1, 4), 0);
        due("WORD", x.run(1, 2), 3);
        due("whose", x.run(1, 3), 1);
        due("in 0 none", x.run(0, 2), NONE);
    }

    private static void off() {
        says("in which of them that in a GAP goes off (NONE: it doesn't, nothing is there).");
        due("in the first", stuck(MAN, 1, 4).off(0, 0, 1), 0);
        due("in none of 0", stuck(MAN, 1, 4).off(0, 0, 0), NONE);
        due("in the last of 5", stuck(MAN, 1, 0).off(0, 0, 5), 4);
        due("not in 4", stuck(MAN, 1, 0).off(0, 0, 4), NONE);
        AWordStuck x = by("0", "60", "0", MAN);
        x.fill(0, 0, 0, 0);
        due("in the last of 60", x.off(0, 0, 60), 59);
        AWordStuck y = by("0", "61", "0", MAN);
        y.fill(0, 0, 0, 0);
        due("not in 60", y.off(0, 0, 60), NONE);
        due("nothing is there", stuck(MAN, 9, 4).off(0, 9, 60), NONE);
    }

    // ---- what would be best

    private static void foods() {
        says("WHICH FOODS (one, a WORD, a GAP; bits 0 .. 9): by which it would be STUCK just there.");
        due("by 0", by("food", "1", "1", MAN).foods(0, 0, 0), 1);
        due("by 9", by("food", "1", "1", MAN).foods(0, 0, 9), 1 << 9);
        due("by all", by("3", "1", "1", MAN).foods(0, 0, 3), 1023);
        due("by none", by("3", "1", "1", MAN).foods(0, 0, 4), 0);
        due("something is there", stuck(MAN, 10, 0).foods(0, 0, 0), 0);
        due("TAKES is NONE", by("1", "1", "1", FLOSSER).foods(0, 0, 0), 0);
        due("in thought", of(MAN).foods(0, 15, 9) + of(MAN).count(1), 1 << 8);
    }

    private static void bestFloss() {
        says("BEST FLOSS (n HOURS): 10 times the one, and the GAP, without whose WORD SHAME in them would be least, if less than so; of like ones the first; NONE.");
        due("of nobody", new AWordStuck().best(60, 0), NONE);
        due("nothing is stuck", of(MAN).best(60, 0), NONE);
        due("not less: a CHILD's", stuck(CHILD, 10, 0).best(60, 0), NONE);
        due("not less: goes off later", stuck(MAN, 10, 0).best(4, 0), NONE);
        due("n 0", stuck(MAN, 10, 99).best(0, 0), NONE);
        due("of like ones the first", stuck(MAN, 10, 0).best(5, 0), 0);
        AWordStuck x = of(MAN, MAN, MAN, MAN, OLD);
        for (int i = 0; i < 50; i++) x.fill(i / 10, i % 10, 0, 0);
        due("of like ones the first", x.best(60, 0), 40);
        for (int gap = 0; gap < 9; gap++) x.floss(4, gap);
        due("the last GAP of the last", x.best(60, 0), 49);
        due("SHAME then", x.best(60, 1), 400);
        AWordStuck y = by("0", "1", "word", MAN);
        y.fill(0, 3, 1, 0);
        due("less by 1", y.best(1, 0), 3);
    }

    private static void few() {
        says("FEW (one, n HOURS, a number): the fewest GAPS (bits; of like ones the least as bits) such that,"
            + " all these flossed, SHAME in them would be no more than that; NONE.");
        due("none is asked", of(MAN).few(0, 60, 0), 0);
        due("none is asked in 0", stuck(MAN, 10, 99).few(0, 0, 0), 0);
        due("just that", stuck(MAN, 10, 0).few(0, 60, 100), 0);
        due("1 less: the least", stuck(MAN, 10, 0).few(0, 60, 99), 1);
        due("just one", stuck(MAN, 10, 0).few(0, 60, 90), 1);
        due("two, the least", stuck(MAN, 10, 0).few(0, 60, 89), 3);
        due("all ten", stuck(MAN, 10, 0).few(0, 60, 0), 1023);
        due("nine of ten", stuck(MAN, 10, 0).few(0, 60, 10), 511);
        AWordStuck x = by("0", "1", "10*word", MAN, MAN);
        for (int gap = 0; gap < 3; gap++) x.fill(0, gap, 1, 0);
        x.fill(0, 9, 3, 0);
        due("one GAP ahead of the least bits", x.few(0, 1, 30), 1 << 9);
        due("of like ones the least", x.few(0, 1, 20), 1 << 9 | 1);
        x.fill(1, 0, 1, 0);
        due("another's is left: NONE", x.few(0, 1, 9), NONE);
        due("another's is left, just that", x.few(0, 1, 10), 7 | 1 << 9);
        due("nothing to floss: NONE", x.few(1, 1, 59), NONE);
    }

    private static void bestKiss() {
        says("BEST KISS (n HOURS): 10 times the one, and the other one, such that, did they kiss now, SHAME in them would be least,"
            + " if less than so; of like ones the first; NONE.");
        due("of nobody", new AWordStuck().kissing(60, 0), NONE);
        due("of one alone", stuck(MAN, 10, 0).kissing(60, 0), NONE);
        due("nothing is stuck", of(MAN, CHILD).kissing(60, 0), NONE);
        AWordStuck like = of(MAN, MAN);
        like.fill(0, 0, 0, 0);
        due("not less", like.kissing(60, 0), NONE);
        due("n 0", like.kissing(0, 0), NONE);
        AWordStuck x = of(MAN, CHILD, CHILD, MAN, CHILD);
        x.fill(3, 0, 0, 0);
        due("of like ones the first", x.kissing(60, 0), 31);
        due("SHAME then", x.kissing(60, 1), 0);
        AWordStuck last = of(CHILD, MAN, MAN, MAN, MAN);
        last.fill(4, 9, 0, 0);
        due("the last and the first", last.kissing(60, 0), 40);
        AWordStuck young = of(MAN, MAN);
        young.fill(0, 9, 0, 4);
        young.fill(0, 8, 0, 0);
        young.fill(1, 9, NONE, 77);
        due("for 0 HOURS then: later", young.kissing(4, 0), 1);
        due("SHAME then", young.kissing(4, 1), 0);
        young.floss(0, 8);
        due("for 0 HOURS then: all the same", young.kissing(5, 0), NONE);
        AWordStuck full = of(MAN, CHILD);
        full.fill(0, 0, 0, 0);
        full.fill(1, 0, 0, 0);
        due("the other one has something there", full.kissing(60, 0), NONE);
        AWordStuck more = by("0", "1+number", "hour", MAN, MAN);
        more.set(2, 0, 3);
        more.set(2, 1, 9);
        more.fill(0, 0, 0, 0);
        due("more SHAME", more.kissing(60, 0), NONE);
        due("more SHAME: as so", more.kissing(60, 1), 3);
    }

    private static void bestHour() {
        says("BEST HOUR (n HOURS): the hour of the day (0 .. 23) that, were CHURCH that alone, would make SHAME least; of like ones the first.");
        due("of nobody", new AWordStuck().church(60, 0), 0);
        due("n 0", stuck(MAN, 1, 99).church(0, 0), 0);
        due("0 is the one not to be", stuck(MAN, 1, 99).church(1, 0), 1);
        due("SHAME then", stuck(MAN, 1, 99).church(1, 1), 10);
        AWordStuck z = by("0", "3", "hour*10+stuck+gap*5", MAN, CHILD);
        z.fill(0, 0, 0, 0);
        z.fill(0, 1, 0, 48);
        z.fill(1, 2, 0, 0);
        due("HOUR, GAP and stuck as they are then: 23 in 2, 54 in 0", z.church(60, 1), 23 + 54);
        due("the first that is free", z.church(60, 0), 1);
        AWordStuck x = stuck(MAN, 1, 99);
        x.set(1, 0, FULL_DAY);
        due("CHURCH as it is does not matter", x.church(1, 1), 10);
        due("and stays", x.told(0, 1), FULL_DAY);
        AWordStuck y = by("0", "gap+1+10*word", "1", MAN, MAN, MAN);
        for (int i = 0; i < 23; i++) y.fill(i / 10, i % 10, i / 10, 0);
        due("23 alone is free", y.church(60, 0), 23);
        due("SHAME then", y.church(60, 1), 23);
        y.fill(2, 3, 2, 0);
        due("none is free: the first", y.church(60, 0), 0);
        due("SHAME then", y.church(60, 1), 25);
        y.set(0, 0, 999);
        due("past 999, none is free", y.church(60, 1), 25);
        y.floss(2, 3);
        due("past 999: (999 + 23) modulo 24 is 14", y.church(60, 0), 14);
    }

    // ---- plans

    /** A PLAN's answers: SHAME * 100, and how many are STUCK at last; a refusal as it is. */
    private static int planned(AWordStuck x, int... rows) {
        row(x, 0, 2, rows);
        int shame = x.plan(0, 0);
        return shame < 0 ? shame : shame * 100 + x.plan(0, 1);
    }

    private static int planned(int... rows) { return planned(of(MAN, CHILD), rows); }

    /** A MAN whose WORD goes off in the next HOUR, and a CHILD. */
    private static AWordStuck kissed() {
        AWordStuck x = withRule("sticks 0;lasts 1;shames 10;", MAN, CHILD);
        x.fill(0, 0, 0, 0);
        return x;
    }

    private static void plan() {
        says("A PLAN: a SHEET tells rows of four: 0 (one says), who, WORD, FOOD;");
        due("no row", planned(), 0);
        due("no row, one is stuck", planned(stuck(MAN, 1, 0)), 1);
        due("three numbers", planned(3, 0, 0), BAD);
        due("five numbers", planned(3, 0, 0, 0, 3), BAD);
        due("a row of -1", planned(-1, 0, 0, 0), BAD);
        due("a row of 4", planned(4, 0, 0, 0), BAD);
        due("the first says", planned(0, 0, 0, 0), 1);
        due("the last says", planned(0, 1, 15, 9), 1);
        due("nobody says", planned(0, 2, 0, 0), BAD);
        due("-1 says", planned(0, -1, 0, 0), BAD);
        due("WORD -1", planned(0, 0, -1, 0), BAD);
        due("WORD 16", planned(0, 0, 16, 0), BAD);
        due("FOOD -1", planned(0, 0, 0, -1), BAD);
        due("FOOD 10", planned(0, 0, 0, 10), BAD);
        due("WORD 5 by FOOD 0, FOOD 1, FOOD 2", planned(0, 0, 5, 0, 0, 0, 5, 1, 0, 0, 5, 2), 3);
        due("WORDS 0, 1, 2 by FOOD 3", planned(0, 0, 0, 3, 0, 0, 1, 3, 0, 0, 2, 3), 3);
        due("heard at once", planned(0, 0, 0, 0, 0, 0, 0, 0), 1);
        says("1 (one flosses), who, GAP, 0;");
        due("the first GAP", planned(stuck(MAN, 10, 0), 1, 0, 0, 0), 9);
        due("the last GAP", planned(stuck(MAN, 10, 0), 1, 0, 9, 0), 9);
        due("nothing is there", planned(1, 0, 9, 0), 0);
        due("GAP -1", planned(1, 0, -1, 0), BAD);
        due("GAP 10", planned(1, 0, 10, 0), BAD);
        due("nobody", planned(1, 2, 0, 0), BAD);
        due("not 0 at last", planned(1, 0, 0, 1), BAD);
        due("GAPS 3, 4 of ten", planned(stuck(MAN, 10, 0), 1, 0, 3, 0, 1, 0, 4, 0), 8);
        says("2 (one kisses), who, whom, 0;");
        due("a CHILD has it then", planned(kissed(), 2, 0, 1, 0, 3, 0, 0, 0), 0);
        due("a CHILD kisses", planned(kissed(), 2, 1, 0, 0, 3, 0, 0, 0), 1000);
        due("the first the last", planned(2, 0, 1, 0), 0);
        due("the last the first", planned(2, 1, 0, 0), 0);
        due("one and the same", planned(2, 0, 0, 0), BAD);
        due("nobody", planned(2, 2, 0, 0), BAD);
        due("nobody is kissed", planned(2, 0, 2, 0), BAD);
        due("-1 is kissed", planned(2, 0, -1, 0), BAD);
        due("not 0 at last", planned(2, 0, 1, 1), BAD);
        says("3 (AN HOUR), 0, 0, 0 (40 numbers at most):");
        due("not 0", planned(3, 1, 0, 0), BAD);
        due("not 0", planned(3, 0, 1, 0), BAD);
        due("not 0", planned(3, 0, 0, 1), BAD);
        due("of nobody", planned(new AWordStuck(), 3, 0, 0, 0), 0);
        AWordStuck ten = stuck(TIGHT, 1, 0);
        ten.set(2, 0, 5);
        int[] hours = new int[40];
        for (int i = 0; i < 40; i += 4) hours[i] = 3;
        due("40 numbers: off in the tenth HOUR", planned(ten, hours), 1000);
        due("36 numbers", planned(ten, java.util.Arrays.copyOf(hours, 36)), 1);
        due("44 have no room", ten.sheet(0, 0, 44), BAD);
        says("in thought SHAME in it; how many are STUCK at last, of all.");
        AWordStuck x = stuck(MAN, 10, 99);
        x.live();
        x.fill(0, 0, 0, 99);
        due("SHAME in it alone", planned(x, 3, 0, 0, 0), 1000);
        due("in thought: SHAME", x.count(2), 100);
        due("in thought: WORDS", x.count(1), 1);
        due("in thought: THE HOUR", x.told(0, 0), 1);
        AWordStuck y = of(MAN, CHILD);
        y.fill(1, 0, 0, 0);
        due("of all", planned(y, 0, 0, 0, 0), 2);
        due("a wrong row at last: none is taken", planned(y, 0, 0, 0, 0, 4, 0, 0, 0), BAD);
        x.fill(0, 0, 0, 99);
        x.set(0, 0, 999);
        due("HOUR may pass 999", planned(x, 3, 0, 0, 0, 3, 0, 0, 0), 1000);
    }

    // ---- hours that were told

    private static void told() {
        says("TOLD: a SHEET tells in which of 60 HOURS each of GAPS 0 .. 9 of one goes off (NONE likewise): the first GAP that is otherwise; NONE;");
        AWordStuck x = of(MAN);
        row(x, 0, 0, -1, -1, -1, -1, -1, -1, -1, -1, -1, -1);
        due("nothing is there", x.tells(0, 0, 0), NONE);
        x.fill(0, 9, 0, 0);
        due("the last GAP is otherwise", x.tells(0, 0, 0), 9);
        x.fill(0, 0, 0, 0);
        due("the first", x.tells(0, 0, 0), 0);
        row(x, 0, 0, 4, -1, -1, -1, -1, -1, -1, -1, -1, 4);
        due("none", x.tells(0, 0, 0), NONE);
        x.cell(0, 9, 3);
        due("an HOUR too early", x.tells(0, 0, 0), 9);
        x.cell(0, 9, 5);
        due("an HOUR too late", x.tells(0, 0, 0), 9);
        x.cell(0, 9, -2);
        due("what no HOUR can be", x.tells(0, 0, 0), 9);
        AWordStuck y = by("0", "60", "0", MAN);
        y.fill(0, 0, 0, 0);
        row(y, 0, 0, 59, -1, -1, -1, -1, -1, -1, -1, -1, -1);
        due("in the last of 60", y.tells(0, 0, 0), NONE);
        AWordStuck z = by("0", "61", "0", MAN);
        z.fill(0, 0, 0, 0);
        row(z, 0, 0, 60, -1, -1, -1, -1, -1, -1, -1, -1, -1);
        due("not in 60: NONE is told", z.tells(0, 0, 0), 0);
        z.cell(0, 0, -1);
        due("not in 60", z.tells(0, 0, 0), NONE);
    }

    private static void readBack() {
        says("KINDS (bits 0 .. 5), NUMBERS (bits 0 .. 9), TEXTS (bits), were they THE RULE, by which all would be so;");
        AWordStuck none = of(MAN);
        row(none, 0, 0, -1, -1, -1, -1, -1, -1, -1, -1, -1, -1);
        due("all KINDS", none.tells(0, 0, 1), 63);
        due("all NUMBERS", none.tells(0, 0, 2), 1023);
        due("TEXT 0 alone", none.tells(0, 0, 3), 1);
        for (int i = 1; i < 6; i++) Check.read(none, "sticks 1;lasts 1;shames 1;");
        due("all six TEXTS", none.tells(0, 0, 3), 63);
        none.cell(0, 9, 0);
        due("no KIND", none.tells(0, 0, 1), 0);
        due("no NUMBER", none.tells(0, 0, 2), 0);
        due("no TEXT", none.tells(0, 0, 3), 0);
        AWordStuck six = of(MAN);
        for (int i = 1; i < 6; i++) Check.read(six, "sticks 1;lasts 2" + i + ";shames 1;");
        six.fill(0, 9, 0, 0);
        row(six, 0, 0, -1, -1, -1, -1, -1, -1, -1, -1, -1, 24);
        due("TEXT 5, THE RULE being 0", six.tells(0, 0, 3), 1 << 5);
        six.force(5);
        six.cell(0, 9, 4);
        due("TEXT 0, THE RULE being 5", six.tells(0, 0, 3), 1);
        due("by THE RULE no NUMBER", six.tells(0, 0, 2), 0);
        AWordStuck x = of(TIGHT);
        x.fill(0, 9, 0, 0);
        row(x, 0, 0, -1, -1, -1, -1, -1, -1, -1, -1, -1, 13);
        due("NUMBER 9, it being 4", x.tells(0, 0, 2), 1 << 9);
        x.cell(0, 9, 4);
        due("NUMBER 0", x.tells(0, 0, 2), 1);
        due("KINDS 0 and 5", x.tells(0, 0, 1), 1 << MAN | 1 << CHILD);
        due("NUMBER stays", x.told(0, 2), 4);
        due("KIND stays", x.told(0, 3), TIGHT);
        due("THE RULE stays", x.count(5), 0);
        says("WORDS (bits 0 .. 15), AGES (of 0 .. 60: how many, the least) that the WORD in a GAP could be, be STUCK for.");
        AWordStuck w = by("0", "word*2+1", "0", MAN);
        w.fill(0, 9, 7, 0);
        row(w, 0, 0, -1, -1, -1, -1, -1, -1, -1, -1, -1, 30);
        due("WORD 15", w.tells(0, 0, 19), 1 << 15);
        w.cell(0, 9, 0);
        due("WORD 0", w.tells(0, 0, 19), 1);
        w.cell(0, 9, 1);
        due("no WORD", w.tells(0, 0, 19), 0);
        w.force(Check.read(w, "sticks 0;lasts 55+word;shames 0;"));
        w.cell(0, 9, -1);
        due("not in 60: WORDS 6 .. 15", w.tells(0, 0, 19), 0xFFC0);
        due("nothing is there: no WORD", w.tells(0, 0, 10), 0);
        AWordStuck a = by("0", "61", "0", MAN);
        a.fill(0, 9, 7, 5);
        row(a, 0, 0, -1, -1, -1, -1, -1, -1, -1, -1, -1, 0);
        due("60 alone", a.tells(0, 0, 29), 1);
        due("the least is 60", a.tells(0, 0, 39), 60);
        a.cell(0, 9, 59);
        due("1 alone", a.tells(0, 0, 39), 1);
        a.cell(0, 9, -1);
        due("0 alone: not in 60", a.tells(0, 0, 29), 1);
        due("the least is 0", a.tells(0, 0, 39), 0);
        a.cell(0, 9, 60);
        due("none", a.tells(0, 0, 29), 0);
        due("no least", a.tells(0, 0, 39), NONE);
        AWordStuck old = stuck(MAN, 1, 999);
        row(old, 0, 0, 0, -1, -1, -1, -1, -1, -1, -1, -1, -1);
        due("4 .. 60, though it is 999", old.tells(0, 0, 20), 57);
        due("its HOURS stay", old.told(0, 20), 999);
        a.cell(0, 9, 60);
        AWordStuck all = by("0", "1", "0", MAN);
        all.fill(0, 0, 0, 0);
        row(all, 0, 0, 0, -1, -1, -1, -1, -1, -1, -1, -1, -1);
        due("all 61", all.tells(0, 0, 20), 61);
        due("all 16 WORDS", all.tells(0, 0, 10), 0xFFFF);
    }

    // ---- draws

    /** By the document's words: the FOOD of each WORD. */
    private static int[] drawnFoods(int seed) {
        int[] foods = new int[16];
        int z = seed;
        for (int i = 0; i < 16; i++) {
            z = z * 1103515245 + 12345;
            foods[i] = (z >>> 9) % 10;
        }
        return foods;
    }

    /** How many WORDS of so many are STUCK in a MAN, each in the GAP of its FOOD, if so many GAPS are full. */
    private static int drawnByHand(int seed, int n, int full) {
        int gaps = (1 << full) - 1;
        int[] foods = drawnFoods(seed);
        for (int i = 0; i < n; i++) gaps |= 1 << foods[i];
        return Integer.bitCount(gaps) - full;
    }

    private static AWordStuck byFood(int full) {
        AWordStuck x = by("food", "5", "10", MAN);
        for (int gap = 0; gap < full; gap++) x.fill(0, gap, 0, 0);
        return x;
    }

    private static void drawn() {
        says("DRAWN by a SEED: one says WORDS 0, 1, .. n less 1 (n 0 .. 16), FOOD of each being (z >>> 9) % 10,"
            + " z being z * 1103515245 + 12345 (an int; SEED at first) anew for each, in thought: how many of them are STUCK.");
        due("n -1", of(MAN).drawn(0, 0, -1), BAD);
        due("n 0", of(MAN).drawn(0, 0, 0), 0);
        due("n 1", of(MAN).drawn(0, 0, 1), 1);
        due("n 17", of(MAN).drawn(0, 0, 17), BAD);
        due("n 16, no room", stuck(MAN, 10, 0).drawn(0, 0, 16), 0);
        int[] seeds = {0, 1, -1, 12345, Integer.MAX_VALUE, Integer.MIN_VALUE, 1 << 30, -(1 << 30)};
        for (int seed : seeds) {
            due("SEED " + seed + ", the first FOOD", onlyFood(drawnFoods(seed)[0]).drawn(0, seed, 1), 1);
            for (int n = 0; n <= 16; n++) due("SEED " + seed + ", n " + n, byFood(3).drawn(0, seed, n), drawnByHand(seed, n, 3));
        }
        due("WORDS from 0 on", by("word", "5", "10", CHILD).drawn(0, 0, 10), 1);
        due("WORDS till 9", by("word", "5", "10", MAN).drawn(0, 0, 10), 10);
        due("WORD 10 has no room then", by("word", "5", "10", MAN).drawn(0, 0, 16), 10);
        due("WORD 10", by("word", "5", "10", CHILD).drawn(0, 0, 11), 2);
        AWordStuck x = byFood(1);
        x.drawn(0, 0, 16);
        due("in thought", x.count(1), 1);
    }

    /** One who has room for a WORD by that FOOD alone. */
    private static AWordStuck onlyFood(int food) {
        AWordStuck x = byFood(10);
        x.floss(0, food);
        return x;
    }

    private static void seeds() {
        says("IN n seeds (1 .. 20), SEED and each 1 more (an int): of these those by which of all 16 WORDS 5 or more are STUCK.");
        due("0 seeds", of(MAN).chance(0, 0, 0, 0), AWordStuck.NO);
        due("21 seeds", of(MAN).chance(0, 0, 21, 0), AWordStuck.NO);
        due("5 are STUCK: above", by("word", "5", "10", TIGHT).chance(0, 0, 20, 0), 1);
        due("5 are STUCK: below", by("word", "5", "10", TIGHT).chance(0, 0, 20, 1), 1);
        AWordStuck four = by("word", "5", "10", TIGHT);
        four.fill(0, 2, 0, 0);
        due("4 are STUCK: above", four.chance(0, 0, 20, 0), 0);
        due("4 are STUCK: below", four.chance(0, 0, 20, 1), 1);
        for (int seed : new int[] {0, 7, Integer.MAX_VALUE, Integer.MAX_VALUE - 9, -3}) {
            for (int n = 1; n <= 20; n++) {
                int hits = 0;
                for (int i = 0; i < n; i++) if (drawnByHand(seed + i, 16, 4) >= 5) hits++;
                AWordStuck x = byFood(4);
                due("SEED " + seed + ", " + n, x.chance(0, seed, n, 0) * n, x.chance(0, seed, n, 1) * hits);
            }
        }
    }

    // ---- the image, sheets

    private static void image() {
        says("AN IMAGE keeps THE HOUR, CHURCH, SHAME, NUMBERS, what is in all GAPS, for how long, THE RULE (PEOPLE that came since go).");
        AWordStuck x = by("0", "5", "10", MAN, OLD);
        x.fill(0, 0, 0, 99);
        x.live();
        x.fill(0, 0, 1, 2);
        x.fill(1, 9, 15, 999);
        x.image();
        x.set(0, 0, 999);
        x.set(1, 0, 0);
        x.set(2, 0, 9);
        x.set(2, 1, 0);
        x.fill(1, 8, 0, 99);
        x.fill(0, 0, 2, 3);
        x.floss(1, 9);
        x.force(0);
        x.man(CHILD, 0);
        x.set(0, 0, 500);
        x.live();
        due("back", x.back(), 2);
        due("THE HOUR", x.told(0, 0), 1);
        due("CHURCH", x.told(0, 1), 1024);
        due("SHAME", x.count(2), 10);
        due("the first NUMBER", x.told(0, 2), 4);
        due("the last NUMBER", x.told(1, 2), 4);
        due("the first GAP", x.told(0, 10), 1);
        due("for how long", x.told(0, 20), 2);
        due("the last GAP", x.told(1, 19), 15);
        due("for how long", x.told(1, 29), 999);
        due("nothing", x.told(1, 18), NONE);
        due("THE RULE", x.count(5), 1);
        due("who came is gone", x.told(2, 3), BAD);
        due("KINDS", x.told(1, 3), OLD);
    }

    private static void sheets() {
        says("SHEETS 0 .. 3 are rows of numbers, or missing (as all are at first): of sort 0 bytes, 1 shorts, 2 ints.");
        for (int i = 0; i < 4; i++) due("missing at first, " + i, new AWordStuck().cell(i, 0, 0), -11);
        due("SHEET -1", new AWordStuck().cell(-1, 0, 0), BAD);
        due("SHEET 4", new AWordStuck().cell(4, 0, 0), BAD);
        due("SHEET 0", new AWordStuck().sheet(0, 0, 1), 1);
        due("SHEET 3", new AWordStuck().sheet(3, 0, 1), 1);
        due("sort -2", new AWordStuck().sheet(0, -2, 1), BAD);
        due("sort 2", new AWordStuck().sheet(0, 2, 1), 1);
        due("sort 3", new AWordStuck().sheet(0, 3, 1), BAD);
    }
}
