/** What the tests by hand begin with. */
class Given {
    static final int NONE = -1, BAD = -2, STATE = -3, FULL = -4;
    static final int MAN = 0, TIGHT = 1, OLD = 2, FLOSSER = 3, BISHOP = 4, CHILD = 5;

    /** People of these kinds, one after the other, each with NUMBER 4. */
    static AWordStuck of(int... kinds) {
        AWordStuck x = new AWordStuck();
        for (int kind : kinds) x.man(kind, 4);
        return x;
    }

    /** One of a kind with WORD 0 in so many GAPS, from 0 on, for so many HOURS. */
    static AWordStuck stuck(int kind, int gaps, int hours) {
        AWordStuck x = of(kind);
        for (int gap = 0; gap < gaps; gap++) x.fill(0, gap, 0, hours);
        return x;
    }

    static AWordStuck withRule(String text, int... kinds) {
        AWordStuck x = of(kinds);
        Check.due("text '" + text + "'", Check.read(x, text), 1);
        x.force(1);
        return x;
    }

    static void row(AWordStuck x, int sheet, int sort, int... v) {
        x.sheet(sheet, sort, v.length);
        for (int i = 0; i < v.length; i++) x.cell(sheet, i, v[i]);
    }

    /** What sticks tells: its last digit by the GAP of a MAN, the tens by that of a CHILD. */
    static int telling(String e, int word, int food) {
        AWordStuck x = withRule("sticks " + e + ";lasts 5;shames 10;", MAN, CHILD);
        return x.say(1, word, food) * 10 + x.say(0, word, food);
    }
}
