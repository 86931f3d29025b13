/** Promises 27 to 33. */
final class ShelvesTest {
    private static final int NOTHING = 0;
    private static final int NO_SHELF = 1;
    private static final int NO_ELEMENT = 2;

    private ShelvesTest() {
    }

    public static void main(String[] args) {
        keep();
        row();
        putKeepsLowestBits();
        putRefusals();
        element();
        copy();
        copyRefusals();
        copyOnItself();
        cost();
        toss();
        Check.end();
    }

    private static void keep() {
        AboveIsShut x = new AboveIsShut();
        for (int d = 0; d < 8; d++) {
            Check.due("keep a drawer", x.keep(d, 1, d, d + 1), 0);
        }
        for (int d = 0; d < 8; d++) {
            Check.due("comes", x.comes(d), d < 6 ? d : -2);
            Check.due("kind", x.drawer(d, 0), d < 6 ? d : -1);
            Check.due("figure", x.drawer(d, 1), d < 6 ? d + 1 : -1);
        }
        Check.due("nothing, the others do not matter", x.keep(3, 0, -7, 99), 0);
        Check.due("nothing is held", x.cost(3), -11);
        Check.due("shelf -1", x.keep(-1, 1, 0, 0), -1);
        Check.due("shelf 8", x.keep(8, 1, 0, 0), -1);
        Check.due("nothing on shelf 8", x.keep(8, 0, 0, 0), -1);
        Check.due("what 2", x.keep(4, 2, 0, 0), -1);
        Check.due("what -1", x.keep(4, -1, 0, 0), -1);
        Check.due("kind 8", x.keep(4, 1, 8, 0), -1);
        Check.due("kind -1", x.keep(4, 1, -1, 0), -1);
        Check.due("figure 10", x.keep(4, 1, 0, 10), -1);
        Check.due("figure -1", x.keep(4, 1, 0, -1), -1);
        Check.due("the shelf is as before", x.cost(4), 24);
        x.row(5, 0, 2);
        Check.due("a drawer in place of a row", x.keep(5, 1, 1, 0), 0);
        Check.due("it is held", x.cost(5), 3);
        Check.due("the row is not", x.put(5, 0, 0), -12);
        x.row(5, 0, 2);
        Check.due("nothing in place of a row", x.keep(5, 0, 0, 0), 0);
        Check.due("nothing is held", x.put(5, 0, 0), -11);
    }

    private static void row() {
        AboveIsShut x = new AboveIsShut();
        Check.due("shelf -1", x.row(-1, 0, 1), -1);
        Check.due("shelf 8", x.row(8, 0, 1), -1);
        Check.due("sort 3", x.row(0, 3, 1), -1);
        Check.due("sort -1", x.row(0, -1, 1), -1);
        Check.due("101 elements", x.row(0, 0, 101), -1);
        Check.due("very many elements", x.row(0, 0, Integer.MAX_VALUE), -1);
        Check.due("size -1", x.row(0, 0, -1), -14);
        Check.due("size min", x.row(0, 0, Integer.MIN_VALUE), -14);
        Check.due("shelf 8, size -1", x.row(8, 0, -1), -1);
        Check.due("sort 3, size -1", x.row(0, 3, -1), -1);
        Check.due("nothing is held", x.put(0, 0, 0), -11);
        for (int sort = 0; sort < 3; sort++) {
            Check.due("100 elements", x.row(0, sort, 100), 0);
            for (int i = 0; i < 100; i++) {
                Check.due("0 at first", x.element(0, i), 0);
                x.put(0, i, i + 1);
            }
        }
        Check.due("no elements", x.row(0, 0, 0), 0);
        Check.due("no place", x.put(0, 0, 1), -13);
        Check.due("a row once more", x.row(0, 2, 100), 0);
        Check.due("0 at first", x.element(0, 7), 0);
        x.put(0, 7, 9);
        Check.due("a refused one", x.row(0, 0, -1), -14);
        Check.due("changes nothing", x.element(0, 7), 9);
        x.keep(1, 1, 0, 0);
        Check.due("a row in place of a drawer", x.row(1, 0, 1), 0);
        Check.due("the drawer is gone", x.cost(1), -12);
    }

    private static void putKeepsLowestBits() {
        AboveIsShut x = new AboveIsShut();
        x.row(0, 0, 2);
        x.row(1, 1, 2);
        x.row(2, 2, 2);
        int[] values = {0, 1, -1, 127, 128, 255, 256, -128, -129, 32767, 32768, 65535, 65536, -32768, -32769,
            Integer.MAX_VALUE, Integer.MIN_VALUE};
        for (int v : values) {
            for (int d = 0; d < 3; d++) {
                Check.due("put", x.put(d, 1, v), 0);
            }
            Check.due("a byte of " + v, x.element(0, 1), (byte) v);
            Check.due("a short of " + v, x.element(1, 1), (short) v);
            Check.due("an int of " + v, x.element(2, 1), v);
        }
        Check.due("the other place", x.element(0, 0), 0);
    }

    private static void putRefusals() {
        AboveIsShut x = new AboveIsShut();
        Check.due("shelf -1", x.put(-1, 0, 0), -1);
        Check.due("shelf 8", x.put(8, 0, 0), -1);
        Check.due("nothing held", x.put(0, -1, 0), -11);
        x.keep(0, 1, 0, 0);
        Check.due("a drawer", x.put(0, -1, 0), -12);
        x.row(0, 0, 3);
        Check.due("place -1", x.put(0, -1, 0), -13);
        Check.due("place 3", x.put(0, 3, 0), -13);
        Check.due("place 2", x.put(0, 2, 0), 0);
    }

    private static void element() {
        AboveIsShut x = new AboveIsShut();
        thrown(x, -1, 0, NO_SHELF);
        thrown(x, 8, 0, NO_SHELF);
        thrown(x, 8, -1, NO_SHELF);
        thrown(x, 0, 0, NO_ELEMENT);
        x.keep(0, 1, 0, 5);
        thrown(x, 0, 0, NO_ELEMENT);
        x.row(0, 0, 3);
        thrown(x, 0, -1, NO_ELEMENT);
        thrown(x, 0, 3, NO_ELEMENT);
        thrown(x, 0, Integer.MIN_VALUE, NO_ELEMENT);
        thrown(x, 0, 2, NOTHING);
        x.row(0, 0, 0);
        thrown(x, 0, 0, NO_ELEMENT);
    }

    private static void thrown(AboveIsShut x, int d, int i, int want) {
        int what = NOTHING;
        try {
            x.element(d, i);
        } catch (IllegalArgumentException e) {
            what = e.getClass() == IllegalArgumentException.class ? NO_SHELF : -1;
        } catch (IllegalStateException e) {
            what = e.getClass() == IllegalStateException.class ? NO_ELEMENT : -1;
        }
        Check.due("element(" + d + ", " + i + ") throws", what, want);
    }

    private static void copy() {
        AboveIsShut x = new AboveIsShut();
        for (int sort = 0; sort < 3; sort++) {
            Check.sorted(x, 0, sort, 1, 2, 3, 4);
            Check.sorted(x, 1, sort, 5, 6, 7);
            Check.due("copy", x.copy(0, 2, 1, 0, 2), 2);
            elements(x, 0, 1, 2, 3, 4);
            elements(x, 1, 3, 4, 7);
            Check.due("copy of all", x.copy(1, 0, 0, 1, 3), 3);
            elements(x, 0, 1, 3, 4, 7);
            Check.due("copy of none", x.copy(0, 0, 1, 0, 0), 0);
            Check.due("copy of none behind the last ones", x.copy(0, 4, 1, 3, 0), 0);
            elements(x, 1, 3, 4, 7);
        }
    }

    private static void elements(AboveIsShut x, int d, int... want) {
        for (int i = 0; i < want.length; i++) {
            Check.due("element(" + d + ", " + i + ")", x.element(d, i), want[i]);
        }
    }

    private static void copyRefusals() {
        AboveIsShut x = new AboveIsShut();
        Check.due("shelf -1", x.copy(-1, 0, 0, 0, 0), -1);
        Check.due("shelf 8", x.copy(0, 0, 8, 0, 0), -1);
        Check.due("nothing held", x.copy(0, 0, 1, 0, 0), -11);
        Check.sorted(x, 0, 0, 1, 2, 3);
        Check.due("nothing held by the second", x.copy(0, 9, 1, 9, -1), -11);
        Check.due("nothing held by the first", x.copy(1, 9, 0, 9, -1), -11);
        x.keep(2, 1, 0, 0);
        Check.due("nothing held by one, a drawer by the other", x.copy(2, 0, 1, 0, 0), -11);
        Check.due("nothing held by one, a drawer by the other", x.copy(1, 0, 2, 0, 0), -11);
        Check.due("a drawer by the second", x.copy(0, 9, 2, 0, 0), -12);
        Check.due("a drawer by the first", x.copy(2, 0, 0, 9, 0), -12);
        Check.due("drawers", x.copy(2, 0, 2, 0, 0), -12);
        Check.sorted(x, 3, 1, 1, 2, 3);
        Check.due("of two sorts", x.copy(0, 0, 3, 0, -1), -12);
        Check.sorted(x, 4, 0, 4, 5);
        Check.due("n -1", x.copy(0, 0, 4, 0, -1), -13);
        Check.due("i -1", x.copy(0, -1, 4, 0, 1), -13);
        Check.due("j -1", x.copy(0, 0, 4, -1, 1), -13);
        Check.due("i 3", x.copy(0, 3, 4, 0, 1), -13);
        Check.due("j 2", x.copy(0, 0, 4, 2, 1), -13);
        Check.due("n 3", x.copy(0, 0, 4, 0, 3), -13);
        Check.due("n 4", x.copy(0, 0, 0, 0, 4), -13);
        Check.due("i 4, n 0", x.copy(0, 4, 4, 0, 0), -13);
        Check.due("j 3, n 0", x.copy(0, 0, 4, 3, 0), -13);
        Check.due("n max", x.copy(0, 1, 4, 1, Integer.MAX_VALUE), -13);
        Check.due("i max, n max", x.copy(0, Integer.MAX_VALUE, 4, 0, Integer.MAX_VALUE), -13);
        Check.due("i min, n min", x.copy(0, Integer.MIN_VALUE, 4, 0, Integer.MIN_VALUE), -13);
        elements(x, 0, 1, 2, 3);
        elements(x, 4, 4, 5);
    }

    private static void copyOnItself() {
        AboveIsShut x = new AboveIsShut();
        Check.sorted(x, 0, 2, 1, 2, 3, 4, 5);
        Check.due("onwards", x.copy(0, 0, 0, 1, 4), 4);
        elements(x, 0, 1, 1, 2, 3, 4);
        Check.due("backwards", x.copy(0, 2, 0, 0, 3), 3);
        elements(x, 0, 2, 3, 4, 3, 4);
    }

    private static void cost() {
        int[] byFigure0 = {4, 3, 4, 6, 4, 6, 8, 4};
        int[] byFigure7 = {4, 3, 11, 6, 32, -1, 8, 4};
        AboveIsShut x = new AboveIsShut();
        for (int kind = 0; kind < 8; kind++) {
            x.keep(0, 1, kind, 0);
            Check.due("cost by figure 0 of kind " + kind, x.cost(0), byFigure0[kind]);
            x.keep(0, 1, kind, 7);
            Check.due("cost by figure 7 of kind " + kind, x.cost(0), byFigure7[kind]);
        }
        Check.due("shelf -1", x.cost(-1), -1);
        Check.due("shelf 8", x.cost(8), -1);
        Check.due("nothing held", x.cost(1), -11);
        x.row(1, 0, 1);
        Check.due("a row", x.cost(1), -12);
    }

    private static void toss() {
        int[] byFigure4 = {4, -15, 4, 4, 104, 202, 4, 4};
        AboveIsShut x = new AboveIsShut();
        for (int kind = 0; kind < 8; kind++) {
            x.keep(0, 1, kind, 4);
            Check.due("toss by figure 4 of kind " + kind, x.toss(0), byFigure4[kind]);
            x.keep(0, 1, kind, 0);
            Check.due("toss by figure 0 of kind " + kind, x.toss(0), -15);
        }
        Check.due("shelf -1", x.toss(-1), -1);
        Check.due("shelf 8", x.toss(8), -1);
        Check.due("nothing held", x.toss(1), -11);
        x.row(1, 0, 1);
        Check.due("a row", x.toss(1), -12);
    }
}
