import java.util.ArrayList;
import java.util.List;
import java.util.Random;

/**
 * Where a TEXT's FAULT is, told by what may stand next: one row of tokens behind the other, with no grammar that
 * calls itself. Each row of up to four tokens behind each of some beginnings is tried, then long ones at random.
 */
public final class FaultTest {
    private static final String[] TOKENS = {
        "(", ")", ";", "+", "-", "*", "<", "=", "or", "and", "not", "7", "word", "sticks", "lasts", "shames"};
    private static final String[] STRANGE = {"x", "wordy", "stick", "nota", "12345", "00000", "A", "/", ">", "\t", "\u00e9"};
    private static final String[] BEGINNINGS = {
        "", "sticks", "sticks 7", "sticks ( 7", "sticks not 7", "sticks - 7", "sticks 7 <", "sticks 7 < 7", "sticks 7 or not 7 =",
        "sticks ( ( ( (", "sticks not not not not", "sticks - - - -", "sticks ( not ( - (", "sticks ( ( ( ( ( 7", "sticks not ( not ( -",
        "sticks not not not not not 7 <", "sticks ( not 7 = 7", "sticks not ( ( 7 ) )", "sticks 7 ; lasts", "sticks 7 ; lasts 7 ; shames",
        "sticks 7 ; lasts 7 ; shames 7", "sticks 7 ; lasts 7 ; shames 7 ;"};
    private static final int DEEP = 4, RANDOM = 60000, OPEN_MOST = 5;

    private FaultTest() { }

    /** What is open from a ( on, or from the head of an E on: its nots, whether it was compared, the - ahead of it. */
    private static final class Level {
        int nots;
        boolean compared;
        int minusAhead;
    }

    private final List<Level> levels = new ArrayList<>();
    private int part, open, minus;
    private boolean takesNot;
    private String wants = "key";

    /** Whether a token may stand behind those that were taken. */
    private boolean take(String token) {
        switch (wants) {
            case "key": return takeKey(token);
            case "one": return takeAheadOfOne(token);
            default: return takeBehindOne(token);
        }
    }

    private boolean takeKey(String token) {
        if (part == 3 || !token.equals(new String[] {"sticks", "lasts", "shames"}[part])) return false;
        levels.add(new Level());
        wants = "one";
        takesNot = true;
        return true;
    }

    private Level last() { return levels.get(levels.size() - 1); }

    private boolean takeAheadOfOne(String token) {
        if (token.equals("7") || token.equals("word")) {
            endOne(minus);
            return true;
        }
        if (!token.equals("(") && !token.equals("-") && !(token.equals("not") && takesNot) || open == OPEN_MOST) return false;
        open++;
        if (token.equals("not")) {
            last().nots++;
        } else if (token.equals("-")) {
            minus++;
            takesNot = false;
        } else {
            Level inner = new Level();
            inner.minusAhead = minus;
            minus = 0;
            levels.add(inner);
            takesNot = true;
        }
        return true;
    }

    private void endOne(int minusAhead) {
        open -= minusAhead;
        minus = 0;
        wants = "more";
    }

    private void endNots() {
        open -= last().nots;
        last().nots = 0;
        last().compared = false;
    }

    private boolean takeBehindOne(String token) {
        boolean isInner = levels.size() > 1;
        switch (token) {
            case "+": case "-": case "*": return goOn(false);
            case "<": case "=":
                if (last().compared) return false;
                last().compared = true;
                return goOn(false);
            case "and": case "or":
                endNots();
                return goOn(true);
            case ")": return isInner && endLevel();
            case ";": return !isInner && endPart();
            default: return false;
        }
    }

    private boolean goOn(boolean withNot) {
        wants = "one";
        takesNot = withNot;
        return true;
    }

    private boolean endLevel() {
        endNots();
        open--;
        endOne(levels.remove(levels.size() - 1).minusAhead);
        return true;
    }

    private boolean endPart() {
        levels.clear();
        open = 0;
        part++;
        wants = "key";
        return true;
    }

    /** The place of the FAULT of these tokens, NONE if they are a TEXT; the tape gets them with blanks between. */
    private static int fault(List<String> tokens, StringBuilder tape, Random blanks) {
        FaultTest t = new FaultTest();
        int fault = -1;
        for (String token : tokens) {
            blank(tape, blanks);
            if (fault < 0 && !t.take(token)) fault = tape.length();
            tape.append(token);
        }
        blank(tape, blanks);
        return fault < 0 && !(t.wants.equals("key") && t.part == 3) ? tape.length() : fault;
    }

    private static void blank(StringBuilder tape, Random blanks) {
        int many = blanks == null ? 1 : blanks.nextInt(3);
        boolean needed = tape.length() > 0 && Character.isLetterOrDigit(tape.charAt(tape.length() - 1));
        for (int i = needed ? Math.max(1, many) : many; i > 0; i--) tape.append(blanks != null && blanks.nextBoolean() ? '\n' : ' ');
    }

    private static int read(CharSequence tape) {
        AWordStuck x = new AWordStuck();
        for (int i = 0; i < tape.length(); i++) x.feed(tape.charAt(i));
        return x.text();
    }

    private static boolean check(List<String> tokens, Random blanks) {
        StringBuilder tape = new StringBuilder();
        int fault = fault(tokens, tape, blanks);
        if (tape.length() > 160) return false;
        Check.due("text '" + tape.toString().replace('\n', '|') + "'", read(tape), fault < 0 ? 1 : -100 - fault);
        return fault < 0;
    }

    private static void all(List<String> tokens, int deep) {
        check(tokens, null);
        if (deep == 0) return;
        for (String token : TOKENS) {
            tokens.add(token);
            all(tokens, deep - 1);
            tokens.remove(tokens.size() - 1);
        }
    }

    /** A row that may stand, mostly, so that it gets long; then perhaps a strange one somewhere. */
    private static List<String> some(Random random) {
        List<String> tokens = new ArrayList<>();
        FaultTest t = new FaultTest();
        for (int tries = 0; tries < 300 && t.part < 3; tries++) {
            String token = random.nextInt(3) > 0 ? TOKENS[random.nextInt(TOKENS.length)] : random.nextBoolean() ? ";" : ")";
            if (!t.mayTake(tokens, token)) continue;
            t.take(token);
            tokens.add(token);
        }
        int at = random.nextInt(tokens.size() + 1);
        switch (random.nextInt(5)) {
            case 0: tokens.add(at, STRANGE[random.nextInt(STRANGE.length)]); break;
            case 1: tokens.add(at, TOKENS[random.nextInt(TOKENS.length)]); break;
            case 2: tokens.subList(at, tokens.size()).clear(); break;
            default: break;
        }
        return tokens;
    }

    private boolean mayTake(List<String> tokens, String token) {
        FaultTest again = new FaultTest();
        for (String before : tokens) again.take(before);
        return again.take(token);
    }

    public static void main(String[] args) {
        for (String beginning : BEGINNINGS) {
            List<String> tokens = new ArrayList<>(beginning.isEmpty() ? List.of() : List.of(beginning.split(" ")));
            all(tokens, beginning.length() > 12 ? DEEP - 1 : DEEP);
        }
        Random random = new Random(1);
        int texts = 0;
        for (int i = 0; i < RANDOM; i++) if (check(some(random), random)) texts++;
        System.out.println(texts + " of " + RANDOM + " rows at random are texts");
        Check.due("many are, many are not", texts > RANDOM / 10 && texts < RANDOM * 9 / 10 ? 1 : 0, 1);
        Check.end();
    }
}
