/** What the tests share: comparing answers, counting wrong ones, and filling shelves. */
final class Check {
    private static int wrong = 0;
    private static int looked = 0;

    private Check() {
    }

    static void due(String call, long got, long want) {
        looked++;
        if (got != want) {
            wrong++;
            if (wrong <= 50) {
                System.out.println(call + " answered " + got + ", due is " + want);
            }
        }
    }

    static void holds(String what, boolean so) {
        due(what, so ? 1 : 0, 1);
    }

    /** Ends the test: with exit code 1 if an answer was wrong, or if none was looked at. */
    static void end() {
        System.out.println(looked + " answers looked at, " + wrong + " wrong");
        if (wrong != 0 || looked == 0) {
            System.exit(1);
        }
    }

    static void sorted(AboveIsShut x, int d, int sort, int... values) {
        due("row", x.row(d, sort, values.length), 0);
        for (int i = 0; i < values.length; i++) {
            due("put", x.put(d, i, values[i]), 0);
        }
    }

    static void bytes(AboveIsShut x, int d, int... values) {
        sorted(x, d, 0, values);
    }

    static void text(AboveIsShut x, int d, String text) {
        int[] values = new int[text.length()];
        for (int i = 0; i < values.length; i++) {
            values[i] = text.charAt(i);
        }
        bytes(x, d, values);
    }

    /** Reads the text by shelf 7 and leaves that shelf empty. */
    static int read(AboveIsShut x, String text) {
        text(x, 7, text);
        int answer = x.wall(7);
        due("keep", x.keep(7, 0, 0, 0), 0);
        return answer;
    }

    static AboveIsShut walled(String text) {
        AboveIsShut x = new AboveIsShut();
        int answer = read(x, text);
        holds("the text " + text + " is read", answer > 0);
        return x;
    }
}
