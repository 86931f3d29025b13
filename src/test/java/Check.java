/** What the tests share: the sentence that is tested, comparing answers, counting wrong ones, and filling shelves. */
final class Check {
    private static final int MOST_PRINTED = 50;

    private static int wrong = 0;
    private static int looked = 0;
    private static String tested = "";
    private static int lookedAhead = 0;

    private Check() {
    }

    /** From here on this sentence is tested; it stands under the promise's heading. */
    static void promise(int number, String sentence) {
        begin("promise " + number, sentence);
        holds("DOC.md says so under the promise's heading", Document.tells(number, sentence));
        lookedAhead = looked;
    }

    /** From here on this sentence of what the document says ahead of its promises is tested, by calls of one. */
    static void term(int number, String sentence) {
        begin("promise " + number + ", terms", sentence);
        holds("DOC.md says so ahead of its promises", Document.tells(Document.TERMS, sentence));
        lookedAhead = looked;
    }

    private static void begin(String where, String sentence) {
        looksAtEach();
        tested = where + ", \"" + sentence + "\": ";
    }

    private static void looksAtEach() {
        if (!tested.isEmpty() && looked == lookedAhead) {
            wrong++;
            System.out.println(tested + "no answer was looked at");
        }
    }

    static void due(String call, long got, long want) {
        looked++;
        if (got != want) {
            isWrong(call + " answered " + got + ", due is " + want);
        }
    }

    static void holds(String what, boolean so) {
        looked++;
        if (!so) {
            isWrong("it does not hold that " + what);
        }
    }

    private static void isWrong(String what) {
        wrong++;
        if (wrong <= MOST_PRINTED) {
            System.out.println(tested + what);
        }
    }

    /** Ends the test: with exit code 1 if an answer was wrong, or if none was looked at. */
    static void end() {
        looksAtEach();
        System.out.println(looked + " answers looked at, " + wrong + " wrong");
        if (wrong != 0 || looked == 0) {
            System.exit(1);
        }
    }

    static void sorted(AboveIsShut x, int d, int sort, int... values) {
        due("row", x.row(d, sort, values.length), 0);
        for (int i = 0; i < values.length; i++) {
            due("put", x.put(d, i, values[i]), 0);
        }
    }

    static void bytes(AboveIsShut x, int d, int... values) {
        sorted(x, d, 0, values);
    }

    static void text(AboveIsShut x, int d, String text) {
        bytes(x, d, text.chars().toArray());
    }

    static void elements(AboveIsShut x, int d, int... want) {
        for (int i = 0; i < want.length; i++) {
            due("element(" + d + ", " + i + ")", x.element(d, i), want[i]);
        }
    }

    /** Reads the text by shelf 7 and leaves that shelf empty. */
    static int read(AboveIsShut x, String text) {
        text(x, 7, text);
        int answer = x.wall(7);
        due("keep", x.keep(7, 0, 0, 0), 0);
        return answer;
    }

    static AboveIsShut walled(String text) {
        AboveIsShut x = new AboveIsShut();
        int answer = text.isEmpty() ? 1 : read(x, text);
        holds("the text " + text + " is read", answer > 0);
        return x;
    }

    /** A wall of so many drawers of one kind and figure, all shut. */
    static AboveIsShut alike(int many, int kind, int figure) {
        return walled(("d" + kind + figure + ";").repeat(many));
    }

    /** Numbers beside those from one to another one: the nearest, such as end in the same bits, the ends of ints. */
    static int[] outside(int low, int high) {
        int[] near = {low - 1, high + 1, low + 256, high + 256, low - 256, low + 65536, low - 65536, Integer.MIN_VALUE,
            Integer.MIN_VALUE + high, Integer.MAX_VALUE};
        return java.util.Arrays.stream(near).filter(v -> v < low || v > high).distinct().toArray();
    }
}
