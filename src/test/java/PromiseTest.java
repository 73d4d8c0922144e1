/**
 * Each promise of the document by hand: ordinary inputs, the edges that it names, wrong inputs. By the first
 * rule a MAN's WORD w by FOOD f sticks in GAP (w + 3f) modulo 10 and goes off in the fifth HOUR, 10 bad (at CHURCH 20).
 */
public final class PromiseTest extends Given {
    private PromiseTest() { }

    private static void due(String call, long got, long want) { Check.due(call, got, want); }

    public static void main(String[] args) {
        constants();
        newObject(); set(); man(); told(); fill();
        feed(); text(); grammar(); faults(); open(); clamps(); names(); force();
        say(); takes(); floss(); kiss(); live(); holds(); bears();
        run(); off(); foods(); best(); few(); kissing(); church(); plan(); planWrong();
        tells(); toldBack(); tellsWrong(); film(); drawn(); chance(); image(); back(); five(); count();
        sheet(); cell(); copy(); people(); taken();
        Check.end();
    }

    private static void constants() {
        due("NONE", AWordStuck.NONE, -1);
        due("BAD", AWordStuck.BAD, -2);
        due("STATE", AWordStuck.STATE, -3);
        due("FULL", AWordStuck.FULL, -4);
        due("NO", AWordStuck.NO, -(1L << 62));
    }

    private static void newObject() { // 1
        AWordStuck x = new AWordStuck();
        due("1 people", x.count(0), 0);
        due("1 words", x.count(1), 0);
        due("1 shame", x.count(2), 0);
        due("1 texts", x.count(3), 1);
        due("1 tape", x.count(4), 0);
        due("1 rule", x.count(5), 0);
        due("1 hour", x.told(0, 0), 0);
        due("1 church", x.told(0, 1), 1024);
        due("1 no one", x.told(0, 2), BAD);
        due("1 no image", x.back(), STATE);
        for (int i = 0; i < 4; i++) due("1 no sheet", x.cell(i, 0, 0), -11);
    }

    private static void set() { // 2
        AWordStuck x = of(MAN, OLD);
        due("2 hour", x.set(0, 0, 999), 0);
        due("2 hour, of any", x.set(0, 77, 5), 999);
        due("2 hour", x.set(0, -9, 0), 5);
        due("2 hour 1000", x.set(0, 0, 1000), BAD);
        due("2 hour -1", x.set(0, 0, -1), BAD);
        due("2 church", x.set(1, 0, 0xFFFFFF), 1024);
        due("2 church", x.set(1, 9, 0), 0xFFFFFF);
        due("2 church too large", x.set(1, 0, 1 << 24), BAD);
        due("2 church -1", x.set(1, 0, -1), BAD);
        due("2 number", x.set(2, 1, 9), 4);
        due("2 number", x.set(2, 1, 0), 9);
        due("2 number of another", x.told(0, 2), 4);
        due("2 number 10", x.set(2, 1, 10), BAD);
        due("2 number -1", x.set(2, 1, -1), BAD);
        due("2 of none", x.set(2, 2, 0), BAD);
        due("2 of -1", x.set(2, -1, 0), BAD);
        due("2 what 3", x.set(3, 0, 0), BAD);
        due("2 what -1", x.set(-1, 0, 0), BAD);
        due("2 nothing changed", x.told(0, 0) + x.told(0, 1) + x.told(1, 2), 0);
    }

    private static void man() { // 3
        AWordStuck x = new AWordStuck();
        due("3 kind 6", x.man(6, 0), BAD);
        due("3 kind -1", x.man(-1, 0), BAD);
        due("3 number 10", x.man(0, 10), BAD);
        due("3 number -1", x.man(0, -1), BAD);
        for (int i = 0; i < 5; i++) due("3 man", x.man(5 - i, i), i);
        due("3 sixth", x.man(0, 0), FULL);
        due("3 BAD ahead of FULL", x.man(6, 0), BAD);
        for (int i = 0; i < 5; i++) {
            due("3 kind", x.told(i, 3), 5 - i);
            due("3 number", x.told(i, 2), i);
            due("3 nothing stuck", x.told(i, 4), 0);
        }
    }

    private static void told() { // 4
        AWordStuck x = of(MAN, TIGHT);
        x.say(0, 7, 0);
        x.fill(1, 3, 2, 900);
        due("4 hour of none", x.told(9, 0), 0);
        due("4 church of none", x.told(-1, 1), 1024);
        due("4 number", x.told(0, 2), 4);
        due("4 kind", x.told(1, 3), TIGHT);
        due("4 how many", x.told(0, 4), 1);
        due("4 word", x.told(0, 17), 7);
        due("4 age", x.told(0, 27), 0);
        due("4 held", x.told(0, 37), 5);
        due("4 other's word", x.told(1, 13), 2);
        due("4 other's age", x.told(1, 23), 900);
        due("4 other holds it longer", x.told(1, 33), 9);
        due("4 nothing", x.told(0, 10), NONE);
        due("4 nothing's age", x.told(0, 20), NONE);
        due("4 nothing held", x.told(0, 30), NONE);
        due("4 nothing in the last gap", x.told(0, 39), NONE);
        x.fill(1, 9, 1, 3);
        due("4 held in the last gap", x.told(1, 39), 9);
        for (int what : new int[] {-1, 5, 6, 7, 8, 9, 40, 100}) due("4 what " + what, x.told(0, what), BAD);
        due("4 of none", x.told(2, 3), BAD);
        due("4 of -1", x.told(-1, 17), BAD);
    }

    private static void fill() { // 5
        AWordStuck x = of(MAN);
        due("5 fill", x.fill(0, 0, 15, 999), NONE);
        due("5 fill over", x.fill(0, 0, 0, 0), 15);
        due("5 age", x.told(0, 20), 0);
        due("5 nothing", x.fill(0, 0, NONE, 3), 0);
        due("5 none there", x.told(0, 10), NONE);
        due("5 none stuck", x.count(1), 0);
        due("5 word 16", x.fill(0, 0, 16, 0), BAD);
        due("5 word -2", x.fill(0, 0, -2, 0), BAD);
        due("5 hours 1000", x.fill(0, 0, 0, 1000), BAD);
        due("5 hours -1", x.fill(0, 0, 0, -1), BAD);
        due("5 none for 1000", x.fill(0, 0, NONE, 1000), BAD);
        due("5 gap 10", x.fill(0, 10, 0, 0), BAD);
        due("5 gap -1", x.fill(0, -1, 0, 0), BAD);
        due("5 of none", x.fill(1, 0, 0, 0), BAD);
        due("5 of -1", x.fill(-1, 0, 0, 0), BAD);
        due("5 nothing changed", x.count(1), 0);
    }

    private static void feed() { // 6
        AWordStuck x = new AWordStuck();
        due("6 -1", x.feed(-1), BAD);
        due("6 256", x.feed(256), BAD);
        for (int i = 1; i <= 160; i++) due("6 feed", x.feed(i == 1 ? 255 : 0), i);
        due("6 full", x.feed(0), FULL);
        due("6 BAD ahead of FULL", x.feed(256), BAD);
        due("6 still 160", x.count(4), 160);
    }

    private static void text() { // 7
        AWordStuck x = new AWordStuck();
        due("7 empty", x.text(), -100);
        due("7 fault", Check.read(x, "sticks ;"), -107);
        due("7 tape is empty then", x.count(4), 0);
        AWordStuck y = of(MAN);
        Check.read(y, "sticks 1+2;lasts 3 lasts");
        due("7 after a fault", Check.read(y, "sticks 7;lasts 3;shames 3;"), 1);
        y.force(1);
        due("7 nothing is left of the fault", y.say(0, 0, 0), 7);
        AWordStuck z = of(MAN);
        due("7 a fault behind all three", Check.read(z, "sticks 1;lasts 1;shames -1)"), -126);
        due("7 after it", Check.read(z, "sticks 1;lasts 1;shames 9;"), 1);
        z.force(1);
        z.say(0, 0, 0);
        due("7 nothing is left of what was longer", z.run(1, 0), 9);
        for (int i = 1; i <= 5; i++) due("7 text", Check.read(x, "sticks 1;lasts 1;shames 1;"), i);
        due("7 tape is empty then, too", x.count(4), 0);
        due("7 texts", x.count(3), 6);
        due("7 no room", Check.read(x, "no text"), FULL);
        due("7 tape stays", x.count(4), 7);
        due("7 a fault took no number", x.force(5), 0);
    }

    private static void grammar() { // 7
        due("7 + - *", telling("1+2*3-4", 0, 0), 3);
        due("7 from the left", telling("9-4-3", 0, 0), 2);
        due("7 ( )", telling("(1+2)*3", 0, 0), 9);
        due("7 - ONE first", telling("20+-2*3", 0, 0), 14);
        due("7 - of - ", telling("- - 7", 0, 0), 7);
        due("7 -(..)", telling("50-(-3*(4+1))", 0, 0), 65);
        due("7 <", telling("2<3", 0, 0), 1);
        due("7 not <", telling("3<3", 0, 0), 0);
        due("7 < of SUMs", telling("word+1<food*2", 4, 3), 1);
        due("7 =", telling("word+1=food*2", 5, 3), 1);
        due("7 not =", telling("word=food", 5, 3), 0);
        due("7 not", telling("not 0", 0, 0), 1);
        due("7 not of true", telling("not 7", 0, 0), 0);
        due("7 not takes all of <", telling("not 3<2", 0, 0), 1);
        due("7 not not", telling("not not 7", 0, 0), 1);
        due("7 and", telling("2 and 4", 0, 0), 1);
        due("7 and of 0", telling("2 and 0", 0, 0), 0);
        due("7 or", telling("0 or 4", 0, 0), 1);
        due("7 or of 0", telling("0 or 0", 0, 0), 0);
        due("7 and ahead of or", telling("1 or 0 and 0", 0, 0), 1);
        due("7 not ahead of and", telling("not 1 and 0", 0, 0), 0);
        due("7 what is not 0 is true", telling("-1 and 3", 0, 0), 1);
        due("7 not = is 0", telling("(1=2)+5", 0, 0), 5);
        due("7 not and is 0", telling("(0 and 1)+5", 0, 0), 5);
        due("7 not or is 0", telling("(0 or 0)+5", 0, 0), 5);
        due("7 or of ( )", telling("(1 or 0) + 8", 0, 0), 9);
        due("7 wraps", telling("9999*9999*9999 < 0", 0, 0), 9999 * 9999 * 9999 < 0 ? 1 : 0);
        due("7 wraps back", telling("(8192*8192*32) = -(8192*8192*32)", 0, 0), 1);
        due("7 blanks", telling("  1\n+\n 2 ", 0, 0), 3);
        due("7 no blanks", telling("0or 1and 2<3", 0, 0), 1);
        due("7 leading 0", telling("0012", 0, 0), 12);
        due("7 as high as can be", telling("0or 1and 0<0+1*(0or 1and 0<0+1*(0or 1and 0<0+1*(0or 1and 0<0+1*(0or 1and 0<0+1*(0or 1and 0<0+1*1)))))", 0, 0), 1);
    }

    private static void fault(String text, int place) {
        due("7 fault of '" + text + "'", Check.read(new AWordStuck(), text), -100 - place);
    }

    private static void faults() { // 7
        fault("", 0);
        fault("  ", 2);
        fault("lasts", 0);
        fault(" word", 1);
        fault("sticks", 6);
        fault("sticks 1 ", 9);
        fault("sticks 1;lasts 1;shames 1", 25);
        due("7 blanks at last", Check.read(new AWordStuck(), "sticks 1;lasts 1;shames 1; \n"), 1);
        fault("sticks 1;lasts 1;shames 1; 1", 27);
        fault("sticks 1;lasts 1;shames 1;sticks 1;", 26);
        fault("sticks 1;lasts 1;shames 1;$", 26);
        fault("sticks 1;shames 1;lasts 1;", 9);
        fault("sticks 1 2;", 9);
        fault("sticks 1 word;", 9);
        fault("sticks 1<2<3;", 10);
        fault("sticks 1=2<3;", 10);
        fault("sticks 1+not 2;", 9);
        fault("sticks 1<not 2;", 9);
        fault("sticks -not 2;", 8);
        fault("sticks 1+;", 9);
        fault("sticks +1;", 7);
        fault("sticks 1**2;", 9);
        fault("sticks 1 and or 2;", 13);
        fault("sticks (1;", 9);
        fault("sticks 1);", 8);
        fault("sticks ();", 8);
        fault("sticks lasts;", 7);
        fault("sticks sticks;", 7);
        fault("sticks gaps;", 7);
        fault("sticks wor d;", 7);
        fault("sticks notword;", 7);
        fault("sticks Word;", 7);
        fault("sticks wordz;", 7);
        fault("sticks gord;", 7);
        fault("sticks not foo;", 11);
        fault("sticks (foo;", 8);
        fault("sticks - foo;", 9);
        fault("sticks 12345;", 7);
        fault("sticks 00001;", 7);
        fault("sticks 1234 5;", 12);
        fault("sticks 1\t+2;", 8);
        fault("sticks 1\r+2;", 8);
        fault("sticks 1" + (char) 255 + ";", 8);
        fault("sticks 1" + (char) 0 + ";", 8);
        fault("sticks 1>2;", 8);
        fault("sticks 1,", 8);
        fault("sticks 1:", 8);
        fault("sticks 1/2", 8);
        fault("sticks 1`2", 8);
        fault("sticks 1{2", 8);
        AWordStuck x = new AWordStuck();
        String full = "sticks 1;lasts 1;shames " + "1+".repeat(68);
        Check.feed(x, full);
        due("7 size of a full tape", x.count(4), 160);
        due("7 ends too early", x.text(), -260);
    }

    private static void open() { // 7
        due("7 five (", telling("(((((3)))))", 0, 0), 3);
        fault("sticks ((((((3))))));", 12);
        due("7 five -", telling("10 - - - - - - 3", 0, 0), 13);
        fault("sticks 10 - - - - - - -3;", 22);
        due("7 five not", telling("not not not not not 3", 0, 0), 0);
        fault("sticks not not not not not not 3;", 27);
        fault("sticks not not not not not - 3;", 27);
        fault("sticks not(-(not(- 3)));", 16);
        fault("sticks not(-(not 3<- 3));", 19);
        due("7 a ( ends with its )", telling("((((1))))+((((2))))+(((((3)))))", 0, 0), 6);
        due("7 a - ends with its ONE", telling("9 + - - - - - 1 * - - - - - 1", 0, 0), 10);
        due("7 not ends with its NOT", telling("not not not not not 0 and not not not not not 0", 0, 0), 1);
        fault("sticks not not not not not 0 < - 1;", 31);
        fault("sticks -(((((1)))));", 12);
        due("7 four ( in a -", telling("9+-((((1))))", 0, 0), 8);
    }

    private static void clamps() { // 7, 9, 4, 13
        due("7 below 0", telling("0-5", 0, 0), 0);
        due("7 99", telling("99", 0, 0), 99);
        due("7 above 99", telling("100", 0, 0), 99);
        due("7 9999", telling("9999", 0, 0), 99);
        AWordStuck x = withRule("sticks 0;lasts 500;shames 500;", MAN, TIGHT);
        x.fill(0, 0, 0, 0);
        x.fill(1, 0, 0, 0);
        due("7 lasts 99 at most", x.told(0, 30), 99);
        due("7 NUMBER comes to it then", x.told(1, 30), 103);
        x.fill(0, 0, 0, 98);
        x.fill(1, 0, NONE, 0);
        due("7 shames 99 at most", x.run(1, 0), 99);
        AWordStuck y = withRule("sticks 0;lasts -5;shames -5;", MAN, OLD);
        y.fill(0, 0, 0, 0);
        y.fill(1, 0, 0, 0);
        due("7 lasts 0 at least, held for 1", y.told(0, 30), 1);
        due("7 shames 0 at least", y.run(1, 0), 4);
    }

    private static void names() { // 7, 9, 4, 12
        AWordStuck x = withRule("sticks word+food+hour+number+gap+stuck;lasts 0;shames 0;", CHILD);
        x.set(0, 0, 30);
        x.fill(0, 9, 1, 50);
        x.fill(0, 8, 1, 50);
        due("7 sticks: 8+9+30+4+0+2", x.say(0, 8, 9), 5);
        AWordStuck w = withRule("sticks gap+5;lasts 0;shames 0;", MAN);
        w.fill(0, 9, 1, 1);
        due("7 gap of sticks", w.say(0, 0, 0), 5);
        AWordStuck y = withRule("sticks 0;lasts word+food*9+hour+number+gap*3+stuck;shames word*2+food*9+hour*3+number+gap+stuck*5;", MAN);
        y.set(0, 0, 20);
        y.fill(0, 7, 3, 12);
        due("7 lasts: 3+0+20+4+21+12", y.told(0, 37), 60);
        y.fill(0, 7, NONE, 0);
        y.fill(0, 2, 1, 90);
        y.set(0, 0, 0);
        y.set(2, 0, 0);
        due("7 lasts 98 < 99", y.told(0, 32), 97);
        y.fill(0, 2, 0, 0);
        due("7 never, as lasts grows", y.run(60, 1), 0);
        AWordStuck z = withRule("sticks 0;lasts 3;shames word*2+food*9+hour*3+number+gap+stuck*5;", MAN);
        z.set(0, 0, 4);
        z.fill(0, 6, 5, 0);
        due("7 shames: 10+0+18+4+6+15", z.run(5, 0), 53);
        due("7 the same truly", z.live() + z.live() + z.live(), 1);
        due("7 the same SHAME", z.count(2), 53);
    }

    private static void force() { // 8
        AWordStuck x = of(MAN);
        due("8 no such", x.force(1), BAD);
        due("8 -1", x.force(-1), BAD);
        Check.read(x, "sticks 7;lasts 2;shames 3;");
        due("8 not yet", x.count(5), 0);
        due("8 as before", x.say(0, 1, 0), 1);
        due("8 force", x.force(1), 0);
        due("8 force again", x.force(1), 1);
        due("8 rule", x.count(5), 1);
        due("8 sticks by it", x.say(0, 1, 0), 7);
        due("8 lasts by it", x.told(0, 31), 2);
        due("8 back", x.force(0), 1);
        due("8 lasts by the first", x.told(0, 31), 5);
        due("8 no such", x.force(2), BAD);
    }

    private static void say() { // 9
        AWordStuck x = of(MAN, FLOSSER);
        due("9 say", x.say(0, 3, 2), 9);
        due("9 word", x.told(0, 19), 3);
        due("9 for 0 hours", x.told(0, 29), 0);
        due("9 something is there", x.say(0, 9, 0), NONE);
        due("9 it stays", x.told(0, 19), 3);
        due("9 takes none", x.say(1, 3, 0), NONE);
        due("9 heard at once, not bad", x.count(2), 0);
        due("9 last", x.say(0, 15, 9), 2);
        due("9 word 16", x.say(0, 16, 0), BAD);
        due("9 word -1", x.say(0, -1, 0), BAD);
        due("9 food 10", x.say(0, 0, 10), BAD);
        due("9 food -1", x.say(0, 0, -1), BAD);
        due("9 of none", x.say(2, 0, 0), BAD);
        due("9 of -1", x.say(-1, 0, 0), BAD);
        due("9 stuck", x.count(1), 2);
        x.fill(0, 8, NONE, 7);
        due("9 say", x.say(0, 8, 0), 8);
        due("9 for 0 hours, whatever was there", x.told(0, 28), 0);
    }

    private static void takes() { // 9
        int[][] due = { // by MAN, TIGHT, OLD, FLOSSER, BISHOP, CHILD: of 0, 7, 28, 36, 99
            {0, 7, 8, 6, 9}, {0, 3, 4, 3, 4}, {0, 7, 8, 6, 9}, {0, NONE, 4, 3, NONE}, {9, 2, 1, 3, 0}, {0, 0, 2, 3, 9}};
        int[] v = {0, 7, 28, 36, 99};
        for (int kind = 0; kind < 6; kind++) {
            for (int i = 0; i < v.length; i++) {
                due("9 kind " + kind + " takes " + v[i], withRule("sticks " + v[i] + ";lasts 0;shames 0;", kind).say(0, 0, 0), due[kind][i]);
            }
        }
    }

    private static void floss() { // 10
        AWordStuck x = of(MAN, MAN);
        x.fill(0, 3, 8, 4);
        x.fill(0, 4, 9, 4);
        due("10 of another", x.floss(1, 3), NONE);
        due("10 floss", x.floss(0, 3), 8);
        due("10 nothing there", x.floss(0, 3), NONE);
        due("10 the others stay", x.told(0, 14), 9);
        due("10 it does not go off", x.run(60, 1), 1);
        due("10 gap 10", x.floss(0, 10), BAD);
        due("10 gap -1", x.floss(0, -1), BAD);
        due("10 of none", x.floss(2, 0), BAD);
        due("10 of -1", x.floss(-1, 0), BAD);
    }

    private static void kiss() { // 11
        AWordStuck x = of(MAN, CHILD);
        x.fill(0, 0, 1, 7);
        x.fill(0, 5, 2, 7);
        x.fill(0, 9, 3, 7);
        x.fill(1, 5, 4, 6);
        x.fill(1, 6, 5, 6);
        x.fill(1, 0, NONE, 6);
        due("11 kiss", x.kiss(0, 1), 2);
        due("11 came", x.told(1, 10), 1);
        due("11 for 0 hours", x.told(1, 20), 0);
        due("11 is gone", x.told(0, 10), NONE);
        due("11 stays", x.told(0, 15), 2);
        due("11 its hours stay", x.told(0, 25), 7);
        due("11 the other's stays", x.told(1, 15), 4);
        due("11 the other's hours stay", x.told(1, 25), 6);
        due("11 the other's does not come back", x.told(0, 16), NONE);
        due("11 no more", x.kiss(0, 1), 0);
        due("11 back", x.kiss(1, 0), 3);
        due("11 one and the same", x.kiss(1, 1), BAD);
        due("11 none", x.kiss(0, 2), BAD);
        due("11 of none", x.kiss(2, 0), BAD);
        due("11 of -1", x.kiss(-1, 0), BAD);
        due("11 -1", x.kiss(0, -1), BAD);
    }

    private static void live() { // 12
        AWordStuck x = of(MAN, CHILD, BISHOP);
        x.fill(0, 0, 1, 3);
        x.fill(0, 1, 1, 4);
        x.fill(1, 0, 1, 999);
        x.fill(2, 0, 1, 0);
        x.set(0, 0, 10);
        due("12 at church", x.live(), 2);
        due("12 20, and 0 of a CHILD", x.count(2), 20);
        due("12 hour", x.told(0, 0), 11);
        due("12 out", x.told(0, 11), NONE);
        due("12 one hour more", x.told(0, 20), 4);
        due("12 not at church", x.live(), 2);
        due("12 10, and 14 of a BISHOP", x.count(2), 44);
        due("12 none", x.live(), 0);
        x.set(0, 0, 999);
        due("12 999", x.live(), STATE);
        due("12 the hour stays", x.told(0, 0), 999);
        x.set(0, 0, 998);
        due("12 998", x.live(), 0);
        due("12 is 999 then", x.told(0, 0), 999);
    }

    private static void holds() { // 4, 12
        int[] v = {0, 3, 25};
        int[][] due = {{1, 3, 25}, {4, 7, 29}, {1, 1, 12}, {1, 4, 26}, {1, 1, 12}, {1, 3, 9}};
        for (int kind = 0; kind < 6; kind++) {
            for (int i = 0; i < v.length; i++) {
                AWordStuck x = withRule("sticks 0;lasts " + v[i] + ";shames 1;", kind);
                x.fill(0, 0, 0, 0);
                due("4 kind " + kind + " holds " + v[i], x.told(0, 30), due[kind][i]);
                due("14 kind " + kind + " holds " + v[i], x.off(0, 0, 60), due[kind][i] - 1);
            }
        }
        AWordStuck x = withRule("sticks 0;lasts 1;shames 1;", FLOSSER);
        x.set(2, 0, 0);
        x.fill(0, 0, 0, 0);
        due("4 1 - 3 is 1 at least", x.told(0, 30), 1);
    }

    private static void bears() { // 12
        int[] due = {10, 10, 14, 10, 14, 0};
        int[] atChurch = {20, 20, 24, 20, 72, 0};
        for (int kind = 0; kind < 6; kind++) {
            for (int hour : new int[] {9, 10, 11, 34, 35}) {
                AWordStuck x = of(kind);
                x.fill(0, 0, 0, 99);
                x.set(0, 0, hour);
                due("12 kind " + kind + " goes off", x.live(), 1);
                due("12 kind " + kind + " bears", x.count(2), hour % 24 == 10 ? atChurch[kind] : due[kind]);
            }
        }
    }

    private static void run() { // 13
        AWordStuck x = of(MAN, OLD);
        x.fill(0, 9, 1, 2); // goes off in 2
        x.fill(1, 2, 2, 0); // OLD: held for 2, goes off in 1
        x.fill(1, 1, 3, 0); // in 1, ahead of it
        x.fill(0, 3, 4, 0); // in 4
        x.set(0, 0, 8);     // so 2 is CHURCH
        due("13 n 0", x.run(0, 0), 0);
        due("13 none in 1", x.run(1, 2), NONE);
        due("13 nobody's", x.run(1, 3), NONE);
        due("13 never", x.run(1, 4), NONE);
        due("13 shame in 2", x.run(2, 0), 28);
        due("13 how many in 2", x.run(2, 1), 2);
        due("13 shame in 3", x.run(3, 0), 48);
        due("13 shame in 60", x.run(60, 0), 58);
        due("13 how many in 60", x.run(60, 1), 4);
        due("13 first", x.run(60, 2), 3);
        due("13 whose", x.run(60, 3), 1);
        due("13 in which", x.run(60, 4), 1);
        due("13 in thought", x.count(1) * 100 + x.count(2), 400);
        x.fill(0, 8, 15, 3); // in 1 too, of the first one
        due("13 by people", x.run(60, 2), 15);
        due("13 by people", x.run(60, 3), 0);
        x.set(0, 0, 999);
        due("13 passes 999", x.run(60, 1), 5);
        due("13 999 modulo 24 is 15", x.run(60, 0), 58);
        AWordStuck z = of(MAN, MAN, MAN, MAN, MAN);
        z.fill(4, 9, 12, 0);
        due("13 the last gap of the last one", z.run(60, 2), 12);
        due("13 whose", z.run(60, 3), 4);
        due("13 n 61", x.run(61, 0), BAD);
        due("13 n -1", x.run(-1, 0), BAD);
        due("13 what 5", x.run(1, 5), BAD);
        due("13 what -1", x.run(1, -1), BAD);
        AWordStuck y = withRule("sticks 0;lasts 99;shames hour-1000;", MAN);
        y.set(0, 0, 999);
        y.fill(0, 0, 0, 60);
        due("13 the hour is 1037 there", y.run(60, 0), 37);
    }

    private static void off() { // 14
        AWordStuck x = of(MAN);
        x.fill(0, 4, 1, 1);
        due("14 off", x.off(0, 4, 60), 3);
        due("14 just in n", x.off(0, 4, 4), 3);
        due("14 not in n", x.off(0, 4, 3), NONE);
        due("14 n 0", x.off(0, 4, 0), NONE);
        due("14 nothing there", x.off(0, 5, 60), NONE);
        x.fill(0, 4, 1, 999);
        due("14 at once", x.off(0, 4, 60), 0);
        due("14 n 61", x.off(0, 4, 61), BAD);
        due("14 n -1", x.off(0, 4, -1), BAD);
        due("14 gap 10", x.off(0, 10, 1), BAD);
        due("14 gap -1", x.off(0, -1, 1), BAD);
        due("14 of none", x.off(1, 0, 1), BAD);
        due("14 of -1", x.off(-1, 0, 1), BAD);
        AWordStuck y = withRule("sticks 0;lasts 50-hour*5;shames 0;", MAN);
        y.fill(0, 0, 0, 0);
        due("14 10 hours in hour 9, as 5 are told then", y.off(0, 0, 60), 9);
        AWordStuck z = withRule("sticks 0;lasts 5+10*(stuck=5);shames 0;", MAN);
        z.fill(0, 0, 0, 0);
        due("14 at 5 it is held for 15", z.off(0, 0, 60), 5);
    }

    private static void foods() { // 15
        AWordStuck x = of(MAN, TIGHT, FLOSSER);
        due("15 foods of a MAN", x.foods(0, 1, 4), 1 << 1);
        due("15 foods of a TIGHT", x.foods(1, 1, 4), 1 << 9 | 1 << 6);
        due("15 of a FLOSSER", x.foods(2, 1, 4), 1 << 9);
        due("15 none", x.foods(1, 1, 9), 0);
        x.fill(0, 4, 0, 0);
        due("15 something is there", x.foods(0, 1, 4), 0);
        due("15 in thought", x.count(1), 1);
        AWordStuck y = withRule("sticks stuck+food*0;lasts 0;shames 0;", MAN);
        due("15 all", y.foods(0, 0, 0), 1023);
        y.fill(0, 0, 0, 0);
        due("15 with one stuck", y.foods(0, 0, 1), 1023);
        due("15 word 16", x.foods(0, 16, 0), BAD);
        due("15 word -1", x.foods(0, -1, 0), BAD);
        due("15 gap 10", x.foods(0, 0, 10), BAD);
        due("15 gap -1", x.foods(0, 0, -1), BAD);
        due("15 of none", x.foods(3, 0, 0), BAD);
        due("15 of -1", x.foods(-1, 0, 0), BAD);
    }

    private static void best() { // 16
        AWordStuck x = of(MAN, OLD, CHILD);
        due("16 none", x.best(60, 0), NONE);
        due("16 none", x.best(60, 1), 0);
        x.fill(2, 0, 0, 0);
        due("16 not less", x.best(60, 0), NONE);
        x.fill(0, 9, 0, 0);
        x.fill(1, 3, 0, 0);
        x.fill(1, 7, 0, 0);
        due("16 the dearest, first", x.best(60, 0), 13);
        due("16 shame then", x.best(60, 1), 24);
        due("16 in 1 hour none", x.best(1, 0), NONE);
        due("16 in 1 hour as so", x.best(1, 1), 0);
        x.set(1, 0, 1 << 4);
        due("16 by church", x.best(60, 0), 9);
        due("16 shame then", x.best(60, 1), 28);
        due("16 in thought", x.count(1), 4);
        AWordStuck y = withRule("sticks 0;lasts 1;shames word;", MAN, MAN, MAN, MAN, MAN);
        y.fill(4, 9, 1, 0);
        due("16 the last gap of the last one, 1 bad", y.best(1, 0), 49);
        due("16 shame then", y.best(1, 1), 0);
        y.fill(0, 0, 1, 0);
        due("16 the first gap of the first one", y.best(1, 0), 0);
        due("16 n 61", x.best(61, 0), BAD);
        due("16 n -1", x.best(-1, 0), BAD);
        due("16 what 2", x.best(0, 2), BAD);
        due("16 what -1", x.best(0, -1), BAD);
    }

    private static void few() { // 17
        AWordStuck x = withRule("sticks 0;lasts 1;shames 10*word;", MAN, MAN);
        x.fill(0, 1, 1, 0);
        x.fill(0, 3, 2, 0);
        x.fill(0, 4, 1, 0);
        x.fill(0, 8, 3, 0);
        x.fill(1, 5, 1, 0); // 80 in all, 70 of them of the first one
        due("17 none is enough", x.few(0, 1, 80), 0);
        due("17 one is enough, least bits", x.few(0, 1, 70), 1 << 1);
        due("17 only the third", x.few(0, 1, 50), 1 << 8);
        due("17 20 and no less", x.few(0, 1, 60), 1 << 3);
        due("17 two", x.few(0, 1, 30), 1 << 3 | 1 << 8);
        due("17 two, least bits", x.few(0, 1, 40), 1 << 1 | 1 << 8);
        due("17 three, least bits", x.few(0, 1, 20), 1 << 1 | 1 << 3 | 1 << 8);
        due("17 all four", x.few(0, 1, 10), 1 << 1 | 1 << 3 | 1 << 4 | 1 << 8);
        due("17 the other's is left", x.few(0, 1, 9), NONE);
        due("17 by the other", x.few(1, 1, 70), 1 << 5);
        due("17 n 0", x.few(0, 0, 0), 0);
        due("17 in thought", x.count(1), 5);
        due("17 9999", x.few(0, 60, 9999), 0);
        due("17 10000", x.few(0, 60, 10000), BAD);
        due("17 -1", x.few(0, 60, -1), BAD);
        due("17 n 61", x.few(0, 61, 0), BAD);
        due("17 n -1", x.few(0, -1, 0), BAD);
        due("17 of none", x.few(2, 0, 0), BAD);
        due("17 of -1", x.few(-1, 0, 0), BAD);
        for (int gap = 0; gap < 10; gap++) x.fill(0, gap, 1, 0);
        due("17 all ten", x.few(0, 1, 10), 1023);
    }

    private static void kissing() { // 18
        AWordStuck x = of(MAN, CHILD, OLD);
        due("18 none", x.kissing(60, 0), NONE);
        due("18 none", x.kissing(60, 1), 0);
        x.fill(0, 2, 0, 0);
        x.fill(0, 3, 0, 0);
        x.fill(2, 3, 0, 0);
        x.fill(2, 4, 0, 0);
        due("18 a CHILD, of like ones the first", x.kissing(60, 0), 21);
        due("18 shame then", x.kissing(60, 1), 20);
        x.set(2, 2, 0);
        due("18 of like ones the first", x.kissing(60, 0), 1);
        due("18 shame then", x.kissing(60, 1), 20);
        x.fill(1, 2, 0, 0);
        x.fill(1, 3, 0, 0);
        due("18 only where nothing is", x.kissing(60, 0), 21);
        due("18 one word comes over", x.kissing(60, 1), 30);
        due("18 in thought", x.count(1), 6);
        AWordStuck y = of(MAN, MAN);
        y.fill(0, 0, 0, 4);
        y.fill(1, 1, 0, 1);
        y.fill(1, 0, NONE, 3);
        due("18 stuck for 0 hours then", y.kissing(4, 0), 1);
        due("18 shame then", y.kissing(4, 1), 10);
        y.fill(0, 2, 0, 0);
        due("18 what goes off later does not count", y.kissing(4, 1), 10);
        due("18 of like ones the first", y.kissing(4, 0), 1);
        due("18 0 hours, not less", y.kissing(5, 1), 30);
        y.fill(0, 2, NONE, 0);
        due("18 no use", y.kissing(60, 0), NONE);
        due("18 as so", y.kissing(60, 1), 20);
        AWordStuck z = of(MAN, CHILD);
        z.kiss(0, 1);
        z.man(MAN, 0);
        z.fill(2, 3, 0, 0);
        due("18 a CHILD between", z.kissing(60, 0), 21);
        AWordStuck c = of(CHILD, MAN);
        c.fill(1, 3, 0, 0);
        due("18 the first one is kissed", c.kissing(60, 0), 10);
        due("18 n 61", x.kissing(61, 0), BAD);
        due("18 n -1", x.kissing(-1, 0), BAD);
        due("18 what 2", x.kissing(0, 2), BAD);
        due("18 what -1", x.kissing(0, -1), BAD);
    }

    private static void church() { // 19
        AWordStuck x = of(MAN, BISHOP);
        due("19 nothing", x.church(60, 0), 0);
        due("19 nothing", x.church(60, 1), 0);
        x.set(0, 0, 23);
        x.fill(0, 0, 0, 4); // off at 23
        x.fill(0, 1, 0, 3); // off at 0
        x.fill(1, 0, 0, 0); // off at 0
        due("19 1 is the first that is free", x.church(60, 0), 1);
        due("19 shame then", x.church(60, 1), 34);
        x.set(0, 0, 22);
        due("19 0 is", x.church(1, 0), 0);
        due("19 shame in one hour", x.church(1, 1), 10);
        due("19 church stays", x.told(0, 1), 1024);
        AWordStuck y = withRule("sticks 0;lasts gap+1+10*word;shames 10-gap;", MAN, TIGHT, OLD);
        for (int gap = 0; gap < 10; gap++) {
            y.fill(0, gap, 0, 0); // in hours 0 .. 9
            y.fill(1, gap, 1, 0); // in hours 14 .. 23
            y.fill(2, gap, 2, 0); // in hours 9, 10, 10, .. 14
        }
        due("19 the least of all", y.church(60, 0), 9 + 14);
        due("19 shame with CHURCH at 23", y.church(60, 1), 55 + 55 + 55 + 40 + 1);
        AWordStuck z = withRule("sticks 0;lasts 3;shames hour*10+stuck;", MAN);
        z.fill(0, 0, 0, 0);
        z.fill(0, 1, 0, 48);
        due("19 by the hour and the hours stuck then", z.church(60, 1), 23 + 49);
        due("19 n 61", x.church(61, 0), BAD);
        due("19 n -1", x.church(-1, 0), BAD);
        due("19 what 2", x.church(0, 2), BAD);
        due("19 what -1", x.church(0, -1), BAD);
    }

    private static void plan() { // 20
        AWordStuck x = of(MAN, CHILD);
        x.fill(0, 0, 9, 4);
        x.set(0, 0, 10);
        row(x, 0, 0, 0, 0, 1, 0, 0, 0, 1, 0, 0, 0, 2, 0, 3, 0, 0, 0, 2, 0, 1, 0, 1, 1, 2, 0, 3, 0, 0, 0);
        due("20 shame at church", x.plan(0, 0), 20);
        due("20 one word is left", x.plan(0, 1), 1);
        due("20 in thought", x.count(1) * 1000 + x.count(2) * 100 + x.told(0, 0), 1010);
        row(x, 1, 2);
        due("20 an empty plan", x.plan(1, 0), 0);
        due("20 an empty plan", x.plan(1, 1), 1);
        row(x, 1, 1, 1, 0, 0, 0, 3, 0, 0, 0);
        due("20 flossed first", x.plan(1, 0), 0);
        due("20 none is stuck", x.plan(1, 1), 0);
        row(x, 1, 1, 0, 0, 1, 3, 0, 0, 1, 3);
        due("20 WORD 1 by FOOD 3 is in GAP 0, where one is", x.plan(1, 1), 1);
        row(x, 1, 1, 0, 0, 1, 4, 0, 0, 1, 5);
        due("20 by FOODS 4 and 5 it is in GAPS 3 and 6", x.plan(1, 1), 3);
        x.set(0, 0, 999);
        row(x, 1, 1, 3, 0, 0, 0, 3, 0, 0, 0);
        due("20 passes 999", x.plan(1, 0), 10);
        x.live();
        x.set(0, 0, 0);
        x.live();
        due("20 shame that was does not count", x.plan(1, 0), 0);
        due("20 shame is still so", x.count(2), 10);
    }

    private static void planWrong() { // 20
        AWordStuck x = of(MAN, CHILD);
        int[][] wrong = {{0}, {0, 0, 0}, {0, 0, 0, 0, 0}, {-1, 0, 0, 0}, {4, 0, 0, 0}, {0, 2, 0, 0}, {0, -1, 0, 0}, {0, 0, 16, 0}, {0, 0, -1, 0},
            {0, 0, 0, 10}, {0, 0, 0, -1}, {1, 2, 0, 0}, {1, 0, 10, 0}, {1, 0, -1, 0}, {1, 0, 0, 1}, {2, 0, 0, 0}, {2, 0, 2, 0}, {2, 2, 0, 0},
            {2, 0, 1, 1}, {2, 0, -1, 0}, {3, 1, 0, 0}, {3, 0, 1, 0}, {3, 0, 0, 1}, {3, 0, 0, 0, 4, 0, 0, 0}};
        for (int[] rows : wrong) {
            row(x, 0, 1, rows);
            due("20 wrong " + java.util.Arrays.toString(rows), x.plan(0, 0), BAD);
        }
        due("20 sheet 4", x.plan(4, 0), BAD);
        due("20 sheet -1", x.plan(-1, 0), BAD);
        due("20 what 2, ahead of -11", x.plan(1, 2), BAD);
        due("20 what -1", x.plan(0, -1), BAD);
        due("20 missing", x.plan(1, 0), -11);
        AWordStuck y = new AWordStuck();
        row(y, 0, 0, 3, 0, 0, 0);
        due("20 an hour of nobody", y.plan(0, 0), 0);
        row(y, 0, 0, 0, 0, 0, 0);
        due("20 nobody says", y.plan(0, 0), BAD);
    }

    private static void tells() { // 21
        AWordStuck x = of(TIGHT, MAN);
        x.fill(0, 2, 5, 3); // held for 9: off in 5
        x.fill(0, 6, 5, 0); // off in 8
        row(x, 0, 1, -1, -1, 5, -1, -1, -1, 8, -1, -1, -1);
        due("21 all so", x.tells(0, 0, 0), NONE);
        due("21 another one", x.tells(0, 1, 0), 2);
        due("21 least of the first gap, where nothing is", x.tells(0, 0, 30), NONE);
        due("21 ages of the last gap, where nothing is", x.tells(0, 0, 29), 0);
        due("21 least of the last gap, where nothing is", x.tells(0, 0, 39), NONE);
        due("21 kinds", x.tells(0, 0, 1), 1 << TIGHT);
        due("21 numbers", x.tells(0, 0, 2), 1 << 4);
        due("21 texts", x.tells(0, 0, 3), 1);
        due("21 words", x.tells(0, 0, 12), 0xFFFF);
        due("21 ages", x.tells(0, 0, 22), 1);
        due("21 the least", x.tells(0, 0, 32), 3);
        due("21 words where nothing is", x.tells(0, 0, 13), 0);
        due("21 ages where nothing is", x.tells(0, 0, 23), 0);
        due("21 least where nothing is", x.tells(0, 0, 33), NONE);
        x.set(2, 0, 7);
        due("21 otherwise", x.tells(0, 0, 0), 2);
        due("21 numbers, whatever it is", x.tells(0, 0, 2), 1 << 4);
        due("21 kinds: FLOSSER, 7 - 3", x.tells(0, 0, 1), 1 << FLOSSER);
        x.fill(0, 9, 0, 0);
        due("21 the first", x.tells(0, 0, 0), 2);
        due("21 ages of a GAP that never goes off", x.tells(0, 0, 29), 0);
        due("21 by none", x.tells(0, 0, 1) + x.tells(0, 0, 2) + x.tells(0, 0, 3), 0);
    }

    private static void toldBack() { // 21
        AWordStuck x = of(MAN);
        Check.read(x, "sticks 0;lasts word*8+gap;shames 0;");
        Check.read(x, "sticks 0;lasts 10-5*(stuck<7);shames 0;");
        Check.read(x, "sticks 0;lasts 10-5*(stuck<7)*(0<gap);shames 0;");
        x.fill(0, 0, 1, 0);
        row(x, 0, 0, 7, -1, -1, -1, -1, -1, -1, -1, -1, -1);
        due("21 by text 1", x.tells(0, 0, 3), 2);
        x.fill(0, 9, 2, 3);
        row(x, 1, 0, 4, -1, -1, -1, -1, -1, -1, -1, -1, 1);
        due("21 by all kinds but OLD, BISHOP, with NUMBER 4 TIGHT, FLOSSER", x.tells(1, 0, 1), 1 << MAN | 1 << CHILD);
        due("21 a MAN's NUMBER does not matter", x.tells(1, 0, 2), 1023);
        due("21 words of the last gap", x.tells(1, 0, 19), 0xFFFF);
        due("21 ages of the first gap", x.tells(1, 0, 20), 1);
        x.fill(0, 9, NONE, 0);
        x.force(1);
        due("21 the word", x.tells(0, 0, 10), 2);
        x.cell(0, 0, -1);
        due("21 words that last above 60", x.tells(0, 0, 10), 0xFF00);
        x.cell(0, 5, 0);
        due("21 words by their GAP alone", x.tells(0, 0, 10), 0xFF00);
        x.fill(0, 0, 9, 0);
        due("21 first that is otherwise", x.tells(0, 0, 0), 5);
        due("21 ages at which 72 is not come to", x.tells(0, 0, 20), 12);
        due("21 the least", x.tells(0, 0, 30), 0);
        x.cell(0, 0, 11);
        due("21 ages: just 60", x.tells(0, 0, 20), 1);
        due("21 the least: 60", x.tells(0, 0, 30), 60);
        x.cell(0, 0, 10);
        due("21 ages: 61 is too old", x.tells(0, 0, 20), 0);
        due("21 no least", x.tells(0, 0, 30), NONE);
        x.force(0);
        x.cell(0, 0, 0);
        due("21 ages from 4 on", x.tells(0, 0, 20), 57);
        due("21 the least: 4", x.tells(0, 0, 30), 4);
        row(x, 0, 0, 9, -1, -1, -1, -1, -1, -1, -1, -1, -1);
        x.fill(0, 0, 9, 0);
        due("21 by text 3 (by text 2 in 4)", x.tells(0, 0, 3), 8);
        row(x, 0, 0, 4, -1, -1, -1, -1, -1, -1, -1, -1, -1);
        due("21 by texts 0 and 2", x.tells(0, 0, 3), 5);
    }

    private static void tellsWrong() { // 21
        AWordStuck x = of(MAN);
        due("21 sheet 4", x.tells(4, 0, 0), BAD);
        due("21 sheet -1", x.tells(-1, 0, 0), BAD);
        due("21 missing", x.tells(0, 0, 0), -11);
        due("21 of none, ahead of -11", x.tells(0, 1, 0), BAD);
        due("21 of -1", x.tells(0, -1, 0), BAD);
        for (int what : new int[] {-1, 4, 9, 40}) due("21 what " + what + " ahead of -11", x.tells(0, 0, what), BAD);
        x.sheet(0, 0, 9);
        due("21 tells 9", x.tells(0, 0, 0), BAD);
        x.sheet(0, 0, 11);
        due("21 tells 11", x.tells(0, 0, 0), BAD);
        x.sheet(0, 2, 10);
        due("21 tells 10", x.tells(0, 0, 0), 0);
    }

    private static void film() { // 22
        AWordStuck x = withRule("sticks 0;lasts word*8;shames 0;", MAN, TIGHT);
        for (int gap = 0; gap < 10; gap++) x.fill(1, gap, gap, 0);
        x.fill(1, 3, NONE, 0);
        due("22 film", x.film(2, 1), 10);
        int[] due = {3, 11, 19, -1, 35, 43, 51, 59, -1, -1};
        row(x, 1, 0, due);
        due("22 the same row", x.tells(1, 1, 0), NONE);
        due("22 by the film", x.tells(2, 1, 0), NONE);
        due("22 of bytes", x.copy(2, 0, 1, 0, 10), 10);
        due("22 of 10", x.cell(2, 10, 0), -12);
        due("22 over another", x.film(2, 0), 10);
        due("22 nothing goes off", x.tells(2, 0, 0), NONE);
        due("22 sheet 4", x.film(4, 0), BAD);
        due("22 sheet -1", x.film(-1, 0), BAD);
        due("22 of none", x.film(0, 2), BAD);
        due("22 of -1", x.film(0, -1), BAD);
        due("22 nothing was filmed", x.cell(0, 0, 0), -11);
    }

    private static void drawn() { // 23
        AWordStuck x = of(MAN);
        int z = 42;
        int words = 0;
        boolean[] full = new boolean[10];
        full[6] = true;
        x.fill(0, 6, 0, 0);
        for (int w = 0; w < 16; w++) {
            due("23 drawn of " + w, x.drawn(0, 42, w), words);
            z = z * 1103515245 + 12345;
            int gap = (w + (z >>> 9) % 10 * 3) % 10;
            if (!full[gap]) words++;
            full[gap] = true;
        }
        due("23 drawn of 16", x.drawn(0, 42, 16), words);
        due("23 in thought", x.count(1), 1);
        for (int gap = 0; gap < 10; gap++) x.fill(0, gap, 0, 0);
        due("23 no room", x.drawn(0, -1, 16), 0);
        AWordStuck y = withRule("sticks stuck;lasts 0;shames 0;", MAN);
        due("23 each sees those ahead", y.drawn(0, 7, 16), 10);
        due("23 n 17", x.drawn(0, 0, 17), BAD);
        due("23 n -1", x.drawn(0, 0, -1), BAD);
        due("23 of none", x.drawn(1, 0, 0), BAD);
        due("23 of -1", x.drawn(-1, 0, 0), BAD);
    }

    private static void chance() { // 24
        AWordStuck x = of(FLOSSER);
        int some = 0;
        for (int from : new int[] {0, 100, Integer.MAX_VALUE - 5}) {
            for (int n = 1; n <= 20; n++) {
                int hits = 0;
                for (int i = 0; i < n; i++) if (x.drawn(0, from + i, 16) >= 5) hits++;
                long above = x.chance(0, from, n, 0);
                long below = x.chance(0, from, n, 1);
                due("24 of " + n, above * n, hits * below);
                due("24 lowest", java.math.BigInteger.valueOf(above).gcd(java.math.BigInteger.valueOf(below)).longValue(), 1);
                if (hits > 0 && hits < n) some++;
            }
            x = of(FLOSSER);
            x.fill(0, 2, 0, 0);
        }
        due("24 not all are 0 or 1", some > 0 ? 1 : 0, 1);
        AWordStuck y = withRule("sticks (stuck<5)*stuck;lasts 0;shames 0;", MAN);
        due("24 5 are enough", y.chance(0, 0, 20, 0), 1);
        due("24 of all", y.chance(0, 0, 20, 1), 1);
        AWordStuck z = withRule("sticks (stuck<4)*stuck;lasts 0;shames 0;", MAN);
        due("24 4 are not", z.chance(0, 0, 20, 0), 0);
        due("24 of 0 below is 1", z.chance(0, 0, 20, 1), 1);
        long no = AWordStuck.NO;
        due("24 n 0", x.chance(0, 0, 0, 0), no);
        due("24 n 21", x.chance(0, 0, 21, 0), no);
        due("24 part 2", x.chance(0, 0, 1, 2), no);
        due("24 part -1", x.chance(0, 0, 1, -1), no);
        due("24 of none", x.chance(1, 0, 1, 0), no);
        due("24 of -1", x.chance(-1, 0, 1, 0), no);
    }

    private static void image() { // 25
        AWordStuck x = new AWordStuck();
        due("25 of none", x.image(), 0);
        x.man(0, 0);
        due("25 back to none", x.back(), 0);
        x.man(0, 0);
        x.man(1, 1);
        due("25 of two", x.image(), 2);
        due("25 the last counts", x.back(), 2);
        x.fill(0, 0, 5, 0);
        x.image();
        x.floss(0, 0);
        x.image();
        x.back();
        due("25 what was kept is as it was last", x.told(0, 10), NONE);
    }

    private static void back() { // 26
        AWordStuck x = of(MAN, OLD);
        due("26 there is none", x.back(), STATE);
        Check.read(x, "sticks 1;lasts 2;shames 3;");
        x.fill(0, 2, 7, 4);
        x.fill(1, 3, 8, 1);
        x.fill(0, 1, 1, 99);
        x.set(0, 0, 10);
        x.live();
        x.set(1, 0, 5);
        x.image();
        for (int i = 0; i < 2; i++) {
            x.man(CHILD, 9);
            x.fill(0, 4, 4, 4);
            x.live();
            x.set(0, 0, 700);
            x.set(1, 0, 6);
            x.set(2, 1, 8);
            x.force(1);
            x.kiss(0, 1);
            x.floss(1, 3);
            Check.feed(x, "a");
            x.sheet(i, 0, 3);
            due("26 back", x.back(), 2);
            due("26 people", x.count(0), 2);
            due("26 hour", x.told(0, 0), 11);
            due("26 church", x.told(0, 1), 5);
            due("26 shame", x.count(2), 64);
            due("26 number", x.told(1, 2), 4);
            due("26 word", x.told(1, 13), NONE);
            due("26 nothing", x.told(0, 14), NONE);
            due("26 rule", x.count(5), 0);
            due("26 texts stay", x.count(3), 2);
            due("26 the tape stays", x.count(4), i + 1);
            due("26 sheets stay", x.cell(i, 2, 0), 1);
        }
        AWordStuck y = of(MAN, OLD);
        y.fill(1, 3, 8, 1);
        y.image();
        y.live();
        y.back();
        due("26 word", y.told(1, 13), 8);
        due("26 its hours", y.told(1, 23), 1);
    }

    private static void five() { // 18, 20, 23, 25, 26
        AWordStuck x = of(MAN, MAN, MAN, MAN, MAN);
        x.fill(4, 0, 0, 0);
        due("25 of five", x.image(), 5);
        due("18 no CHILD among five", x.kissing(60, 0), NONE);
        row(x, 0, 0, 2, 4, 3, 0);
        due("20 with five", x.plan(0, 1), 1);
        due("23 with five", x.drawn(4, 0, 0), 0);
        due("26 of five", x.back(), 5);
        AWordStuck y = of(MAN);
        y.fill(0, 3, 0, 0);
        y.image();
        y.man(CHILD, 0);
        y.man(OLD, 0);
        y.fill(2, 4, 0, 0);
        due("18 a CHILD came", y.kissing(60, 0), 1);
        due("13 an OLD's word", y.run(60, 1), 2);
        y.back();
        due("18 and is gone", y.kissing(60, 0), NONE);
        due("13 with his words", y.run(60, 1), 1);
        due("27 with his words", y.count(1), 1);
        due("3 the next one", y.man(MAN, 0), 1);
        due("3 the next one", y.man(MAN, 0), 2);
        due("3 nothing is stuck in it", y.told(2, 4), 0);
    }

    private static void count() { // 27
        AWordStuck x = of(MAN, OLD, CHILD);
        x.fill(0, 0, 0, 99);
        x.fill(2, 0, 0, 0);
        Check.feed(x, "ab");
        due("27 people", x.count(0), 3);
        due("27 words", x.count(1), 2);
        due("27 shame", x.count(2), 0);
        x.live();
        due("27 words then", x.count(1), 1);
        due("27 shame then", x.count(2), 10);
        due("27 tape", x.count(4), 2);
        x.text();
        due("27 texts", x.count(3), 1);
        Check.read(x, "sticks 1;lasts 1;shames 1;");
        due("27 texts then", x.count(3), 2);
        x.force(1);
        due("27 rule", x.count(5), 1);
        due("27 what 6", x.count(6), BAD);
        due("27 what -1", x.count(-1), BAD);
    }

    private static void sheet() { // 28
        AWordStuck x = of(MAN);
        due("28 sheet", x.sheet(3, 2, 40), 1);
        due("28 of 40", x.cell(3, 39, 1), 1);
        due("28 anew", x.sheet(3, 2, 40), 1);
        x.sheet(2, 2, 40);
        row(x, 1, 2, 3, 0, 0, 0);
        x.copy(3, 36, 1, 0, 4);
        due("28 all 0: one says word 0", x.plan(1, 1), 1);
        row(x, 1, 2, 3, 0, 0, 0);
        x.sheet(1, 2, 4);
        due("28 all 0, from the first on", x.plan(1, 1), 1);
        due("28 of 0", x.sheet(0, 0, 0), 1);
        due("28 of 0 has nothing", x.cell(0, 0, 0), -12);
        due("28 of 0 is not missing", x.plan(0, 0), 0);
        due("28 missing", x.sheet(3, -1, 99), 1);
        due("28 missing, n below 0", x.sheet(3, -1, -99), 1);
        due("28 is missing", x.cell(3, 0, 0), -11);
        due("28 sheet 4", x.sheet(4, 0, 0), BAD);
        due("28 sheet -1", x.sheet(-1, 0, 0), BAD);
        due("28 sort 3", x.sheet(0, 3, 0), BAD);
        due("28 sort -2", x.sheet(0, -2, 0), BAD);
        due("28 n 41", x.sheet(0, 0, 41), BAD);
        due("28 n -1", x.sheet(0, 0, -1), -14);
        due("28 sort ahead of -14", x.sheet(0, 3, -1), BAD);
        due("28 nothing changed", x.plan(0, 0), 0);
    }

    /** Item 0 of a sheet of ten: the first GAP of nobody's words is otherwise but for -1. */
    private static int isNone(int sort, int v) {
        AWordStuck x = of(MAN);
        row(x, 0, sort, v, -1, -1, -1, -1, -1, -1, -1, -1, -1);
        return x.tells(0, 0, 0) == NONE ? 1 : 0;
    }

    private static void cell() { // 29
        AWordStuck x = new AWordStuck();
        x.sheet(1, 1, 3);
        due("29 cell", x.cell(1, 2, 7), 1);
        due("29 cell 3", x.cell(1, 3, 7), -12);
        due("29 cell -1", x.cell(1, -1, 7), -12);
        due("29 sheet 4", x.cell(4, 0, 7), BAD);
        due("29 sheet -1", x.cell(-1, 0, 7), BAD);
        due("29 missing, ahead of -12", x.cell(0, -1, 7), -11);
        due("29 a byte of 255", isNone(0, 255), 1);
        due("29 a byte of 511", isNone(0, 511), 1);
        due("29 a byte of 127", isNone(0, 127), 0);
        due("29 a short of 255", isNone(1, 255), 0);
        due("29 a short of 65535", isNone(1, 65535), 1);
        due("29 an int of 65535", isNone(2, 65535), 0);
        due("29 an int of -1", isNone(2, -1), 1);
        due("29 an int as large as can be", isNone(2, Integer.MAX_VALUE), 0);
    }

    private static void copy() { // 30
        AWordStuck x = of(MAN);
        row(x, 0, 0, 0, 0, 1, 0, 0, 0, 2, 0);
        x.sheet(1, 0, 4);
        due("30 copy", x.copy(0, 4, 1, 0, 4), 4);
        due("30 came", x.plan(1, 1), 1);
        due("30 none", x.copy(0, 8, 1, 4, 0), 0);
        due("30 from outside", x.copy(0, 5, 1, 0, 4), -12);
        due("30 to outside", x.copy(0, 0, 1, 1, 4), -12);
        due("30 n below 0", x.copy(0, 2, 1, 2, -1), -12);
        due("30 from -1", x.copy(0, -1, 1, 0, 1), -12);
        due("30 to -1", x.copy(0, 0, 1, -1, 1), -12);
        due("30 from 9, none", x.copy(0, 9, 1, 0, 0), -12);
        due("30 n too large", x.copy(0, 1, 1, 1, Integer.MAX_VALUE), -12);
        due("30 i too large", x.copy(0, Integer.MAX_VALUE, 1, 0, 1), -12);
        x.sheet(2, 1, 4);
        due("30 unlike, ahead of -12", x.copy(0, -1, 2, 0, 1), -13);
        due("30 missing", x.copy(0, 0, 3, 0, 1), -11);
        due("30 from missing", x.copy(3, 0, 0, 0, 1), -11);
        due("30 sheet 4", x.copy(4, 0, 3, 0, 1), BAD);
        due("30 to sheet -1", x.copy(3, 0, -1, 0, 1), BAD);
        AWordStuck y = of(MAN);
        int[] was = {-1, 0, 1, 2, 3, 4, 5, 6, 7, 8};
        int[] due = {-1, -1, 0, 1, 2, 3, 4, 5, 6, 7};
        y.force(Check.read(y, "sticks 0;lasts gap;shames 0;"));
        for (int gap = 2; gap < 10; gap++) y.fill(0, gap, 0, 1);
        row(y, 0, 0, was);
        due("30 onto itself, later", y.copy(0, 0, 0, 1, 9), 9);
        row(y, 1, 0, due);
        due("30 as they were", y.tells(0, 0, 0), NONE);
        due("30 as due", y.tells(1, 0, 0), NONE);
        row(y, 0, 0, 9, -1, -1, 0, 1, 2, 3, 4, 5, 6);
        due("30 onto itself, ahead", y.copy(0, 1, 0, 0, 9), 9);
        due("30 as they were", y.tells(0, 0, 0), 9);
    }

    private static void people() { // 31
        AWordStuck x = new AWordStuck();
        row(x, 0, 2, 9, 3, 8, 6, 0, 0, 10, -1, 0, 5, 9);
        due("31 one", x.people(0, 2, 1, 1), 1);
        due("31 kind", x.told(0, 3), FLOSSER);
        due("31 number", x.told(0, 2), 8);
        due("31 others are left out", x.people(0, 2, 3, 4), 1);
        due("31 the last", x.told(1, 3), CHILD);
        due("31 outside at last", x.people(0, 2, 9, 2), -12);
        due("31 what stood ahead came", x.count(0), 3);
        due("31 half outside", x.people(0, 2, 10, 1), -12);
        due("31 from -1", x.people(0, 2, -1, 1), -12);
        due("31 from far off", x.people(0, 2, Integer.MAX_VALUE, 5), -12);
        due("31 from -1, none", x.people(0, 2, -1, 0), 0);
        due("31 none came", x.count(0), 3);
        row(x, 1, 0, 0, 0, 1, 1, 2, 2, 3, 3);
        due("31 as many as have room", x.people(1, 0, 0, 4), 2);
        due("31 people", x.count(0), 5);
        due("31 no room, and outside", x.people(1, 0, 0, 5), -12);
        due("31 another sort", x.people(1, 1, 0, 0), -13);
        due("31 missing", x.people(2, 1, -1, 1), -11);
        due("31 missing, none", x.people(2, 1, 0, 0), -11);
        due("31 sheet 4", x.people(4, 0, 0, 0), BAD);
        due("31 sheet -1", x.people(-1, 0, 0, 0), BAD);
        due("31 sort 3", x.people(1, 3, 0, 0), BAD);
        due("31 sort -1", x.people(2, -1, 0, 0), BAD);
        due("31 n 6", x.people(1, 0, 0, 6), BAD);
        due("31 n -1, ahead of -13", x.people(1, 1, 0, -1), BAD);
    }

    private static void taken() { // 32
        int[] above = {1 << MAN, 1 << TIGHT | 1, 1 << OLD | 1, 1 << FLOSSER | 1 << TIGHT | 1, 1 << BISHOP | 1 << OLD | 1, 1 << CHILD | 1};
        for (int kind = 0; kind < 6; kind++) {
            AWordStuck x = of(kind);
            for (int k = 0; k < 6; k++) due("32 " + kind + " taken for " + k, x.taken(0, k), (above[kind] >> k & 1) == 1 ? 4 : -13);
        }
        AWordStuck x = of(MAN);
        due("32 none such", x.taken(1, 0), -11);
        due("32 -1", x.taken(-1, 0), -11);
        due("32 k 6, ahead of -11", x.taken(1, 6), BAD);
        due("32 k -1", x.taken(0, -1), BAD);
    }
}
