/** Counts the answers that are not as due, and tells them. */
final class Check {
    private static int right = 0;
    private static int wrong = 0;

    private Check() { }

    static void due(String call, long got, long want) {
        if (got == want) {
            right++;
            return;
        }
        wrong++;
        if (wrong <= 40) System.out.println(call + " answered " + got + ", due is " + want);
    }

    static void end() {
        System.out.println(right + " answers as due, " + wrong + " not");
        if (wrong > 0 || right == 0) System.exit(1);
    }

    static void feed(AWordStuck x, String text) {
        for (int i = 0; i < text.length(); i++) x.feed(text.charAt(i));
    }

    static int read(AWordStuck x, String text) {
        feed(x, text);
        return x.text();
    }
}
