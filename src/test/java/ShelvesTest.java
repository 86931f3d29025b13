/** Promises 27 to 33. */
final class ShelvesTest {
    private static final int[] NO_SHELVES = Check.outside(0, 7);

    private ShelvesTest() {
    }

    public static void main(String[] args) {
        all();
        Check.end();
    }

    static void all() {
        keep();
        keepRefusals();
        row();
        rowRefusals();
        put();
        putRefusals();
        element();
        elementRefusals();
        copy();
        copyOnItself();
        copyRefusals();
        cost();
        toss();
    }

    private static void keep() {
        Check.promise(27, "SHELF d gets: what = 0 nothing (the others do not matter); 1 a DRAWER of KIND k with a FIGURE: 0.");
        AboveIsShut x = new AboveIsShut();
        for (int d = 0; d < 8; d++) {
            Check.due("keep a drawer", x.keep(d, 1, d, d + 1), 0);
        }
        for (int d = 0; d < 8; d++) {
            Check.due("comes", x.comes(d), d < 6 ? d : -2);
            Check.due("kind", x.drawer(d, 0), d < 6 ? d : -1);
            Check.due("figure", x.drawer(d, 1), d < 6 ? d + 1 : -1);
        }
        int[] others = {-1, 0, 7, 8, 9, 10, Integer.MIN_VALUE, Integer.MAX_VALUE};
        for (int d = 0; d < 8; d++) {
            for (int other : others) {
                x.keep(d, 1, 3, 0);
                Check.due("nothing, KIND " + other, x.keep(d, 0, other, 0), 0);
                Check.due("nothing is held", x.cost(d), -11);
                Check.due("nothing, FIGURE " + other, x.keep(d, 0, 0, other), 0);
                Check.due("nothing once more", x.keep(d, 0, other, other), 0);
            }
        }

        Check.term(27, "SHELVES 0 .. 7 each hold nothing (at first), a DRAWER, a ROW.");
        AboveIsShut y = new AboveIsShut();
        y.row(5, 0, 2);
        Check.due("a drawer in place of a row", y.keep(5, 1, 1, 0), 0);
        Check.due("it is held", y.cost(5), 3);
        Check.due("the row is not", y.put(5, 0, 0), -12);
        Check.due("another drawer in its place", y.keep(5, 1, 3, 0), 0);
        Check.due("it is held", y.cost(5), 6);
        y.row(5, 0, 2);
        Check.due("nothing in place of a row", y.keep(5, 0, 0, 0), 0);
        Check.due("nothing is held", y.put(5, 0, 0), -11);
        y.keep(4, 1, 2, 9);
        Check.due("other shelves stay", y.keep(5, 1, 2, 0), 0);
        Check.due("the drawer beside", y.cost(4), 13);

        Check.term(27, "of KINDS: 0 DRAWER; 1 FREE under DRAWER; 2 STUCK under DRAWER; 3 UNDER under FREE; 4 OVER under "
            + "DRAWER; 5 LOOSE under UNDER; 6 ODD under FREE; 7 LATCH under DRAWER: a FIGURE (0 .. 9).");
        for (int kind = 0; kind < 8; kind++) {
            for (int figure = 0; figure < 10; figure++) {
                AboveIsShut one = new AboveIsShut();
                Check.due("keep", one.keep(0, 1, kind, figure), 0);
                Check.due("comes", one.comes(0), 0);
                Check.due("KIND", one.drawer(0, 0), kind);
                Check.due("FIGURE", one.drawer(0, 1), figure);
            }
        }
    }

    private static void keepRefusals() {
        Check.promise(27, "-1.");
        for (int d : NO_SHELVES) {
            Refused.by(-1, "a drawer on shelf " + d, y -> y.keep(d, 1, 0, 0));
            Refused.by(-1, "nothing on shelf " + d, y -> y.keep(d, 0, 0, 0));
        }
        for (int d = 0; d < 8; d++) {
            int shelf = d;
            for (int what : Check.outside(0, 1)) {
                Refused.by(-1, "what " + what, y -> y.keep(shelf, what, 0, 0));
            }
            for (int kind : Check.outside(0, 7)) {
                Refused.by(-1, "kind " + kind, y -> y.keep(shelf, 1, kind, 0));
            }
            for (int figure : Check.outside(0, 9)) {
                Refused.by(-1, "figure " + figure, y -> y.keep(shelf, 1, 7, figure));
            }
        }
    }

    private static void row() {
        Check.promise(28, "SHELF d gets a ROW of a SORT: 0.");
        for (int d = 0; d < 8; d++) {
            AboveIsShut x = Refused.furnished();
            Check.due("row(" + d + ", 1, 2)", x.row(d, 1, 2), 0);
            Check.elements(x, d, 0, 0);
            Check.due("what was held is gone", x.cost(d), -12);
            Check.due("there is no third place", x.put(d, 2, 0), -13);
            Check.due("other shelves stay", x.cost(d == 7 ? 4 : 7), d == 7 ? 12 : -3);
        }

        Check.term(28, "A ROW has a SORT (0 bytes, 1 shorts, 2 ints)");
        long[] lowest = {(byte) 0x12348765, (short) 0x12348765, 0x12348765};
        for (int sort = 0; sort < 3; sort++) {
            AboveIsShut x = new AboveIsShut();
            x.row(0, sort, 1);
            x.put(0, 0, 0x12348765);
            Check.due("an element of sort " + sort, x.element(0, 0), lowest[sort]);
        }

        Check.term(28, "and 0 .. 100 elements, 0 at first");
        for (int sort = 0; sort < 3; sort++) {
            for (int size : new int[] {0, 1, 2, 99, 100}) {
                AboveIsShut x = new AboveIsShut();
                Check.due("row", x.row(0, sort, size), 0);
                for (int i = 0; i < size; i++) {
                    Check.due("0 at first", x.element(0, i), 0);
                    Check.due("put", x.put(0, i, i + 1), 0);
                }
                Check.due("no place behind", x.put(0, size, 1), -13);
                Check.due("a row once more", x.row(0, sort, size), 0);
                for (int i = 0; i < size; i++) {
                    Check.due("0 at first, though it was not", x.element(0, i), 0);
                }
            }
        }
    }

    private static void rowRefusals() {
        Check.promise(28, "-1 (n above 100); -14.");
        for (int n : new int[] {101, 102, 128, 256, 65536, Integer.MAX_VALUE}) {
            for (int sort = 0; sort < 3; sort++) {
                int asked = sort;
                Refused.by(-1, "size " + n, y -> y.row(0, asked, n));
                Refused.by(-1, "size " + n, y -> y.row(7, asked, n));
            }
        }
        int[] sizes = {-1, 0, 100, 101, Integer.MIN_VALUE, Integer.MAX_VALUE};
        for (int n : sizes) {
            for (int d : NO_SHELVES) {
                Refused.by(-1, "shelf " + d + ", size " + n, y -> y.row(d, 0, n));
            }
            for (int sort : Check.outside(0, 2)) {
                Refused.by(-1, "sort " + sort + ", size " + n, y -> y.row(0, sort, n));
            }
            Refused.by(-1, "neither shelf nor sort, size " + n, y -> y.row(8, 3, n));
        }

        Check.term(28, "-14 a size below 0");
        for (int n : new int[] {-1, -2, -100, -256, -65536, Integer.MIN_VALUE, Integer.MIN_VALUE + 1}) {
            for (int sort = 0; sort < 3; sort++) {
                int asked = sort;
                Refused.by(-14, "size " + n, y -> y.row(0, asked, n));
                Refused.by(-14, "size " + n, y -> y.row(7, asked, n));
            }
        }
    }

    private static void put() {
        Check.promise(29, "Element i of the ROW becomes v: 0.");
        AboveIsShut x = new AboveIsShut();
        for (int d = 0; d < 8; d++) {
            x.row(d, d % 3, 3);
            Check.due("put the first", x.put(d, 0, d + 1), 0);
            Check.due("put the last", x.put(d, 2, -d), 0);
            Check.elements(x, d, d + 1, 0, -d);
            Check.due("put the first once more", x.put(d, 0, 9), 0);
            Check.elements(x, d, 9, 0, -d);
        }

        Check.term(29, "what is put in keeps its lowest bits");
        x.row(0, 0, 2);
        x.row(1, 1, 2);
        x.row(2, 2, 2);
        int[] values = {0, 1, -1, 127, 128, 255, 256, 257, -128, -129, 32767, 32768, 65535, 65536, 65537, -32768, -32769,
            Integer.MAX_VALUE, Integer.MIN_VALUE};
        int[] asBytes = {0, 1, -1, 127, -128, -1, 0, 1, -128, 127, -1, 0, -1, 0, 1, 0, -1, -1, 0};
        int[] asShorts = {0, 1, -1, 127, 128, 255, 256, 257, -128, -129, 32767, -32768, -1, 0, 1, -32768, 32767, -1, 0};
        for (int i = 0; i < values.length; i++) {
            for (int d = 0; d < 3; d++) {
                Check.due("put", x.put(d, 1, values[i]), 0);
            }
            Check.due("a byte of " + values[i], x.element(0, 1), asBytes[i]);
            Check.due("a short of " + values[i], x.element(1, 1), asShorts[i]);
            Check.due("an int of " + values[i], x.element(2, 1), values[i]);
        }
        Check.due("the other place", x.element(0, 0), 0);
    }

    private static void putRefusals() {
        Check.promise(29, "-1, -11, -12, -13.");
        for (int d : NO_SHELVES) {
            Refused.by(-1, "put(" + d + ", 0, 1)", y -> y.put(d, 0, 1));
            Refused.by(-1, "put(" + d + ", -1, 1)", y -> y.put(d, -1, 1));
        }
        int[] sizes = {2, 3, 2, 3, 0, 0, 0, 0};
        for (int d : new int[] {0, 1, 2, 3, 6}) {
            for (int i : Check.outside(0, sizes[d] - 1)) {
                Refused.by(-13, "put(" + d + ", " + i + ", 1)", y -> y.put(d, i, 1));
            }
        }
        for (int i : new int[] {-1, 0, 100, Integer.MIN_VALUE, Integer.MAX_VALUE}) {
            Refused.by(-11, "put(5, " + i + ", 1), nothing held", y -> y.put(5, i, 1));
            Refused.by(-12, "put(4, " + i + ", 1), a drawer", y -> y.put(4, i, 1));
        }
        AboveIsShut x = new AboveIsShut();
        x.row(0, 0, 100);
        Check.due("place 99", x.put(0, 99, 1), 0);
        Check.due("place 100", x.put(0, 100, 1), -13);
    }

    private static void element() {
        Check.promise(30, "Element i of the ROW.");
        AboveIsShut x = new AboveIsShut();
        for (int d = 0; d < 8; d++) {
            Check.sorted(x, d, 2, d, Integer.MIN_VALUE, Integer.MAX_VALUE, -1);
            Check.elements(x, d, d, Integer.MIN_VALUE, Integer.MAX_VALUE, -1);
        }
        Check.due("no int, but a long below 0", x.element(0, 1), -2147483648L);
        x.row(0, 1, 100);
        x.put(0, 99, -7);
        Check.due("the last of 100", x.element(0, 99), -7);
    }

    private static void elementRefusals() {
        Check.promise(30, "IllegalArgumentException: no such SHELF; IllegalStateException: no ROW, no such place.");
        for (int d : NO_SHELVES) {
            for (int i : new int[] {-1, 0, 100}) {
                Refused.by(Refused.NO_SHELF, "element(" + d + ", " + i + ")", y -> y.element(d, i));
            }
        }
        for (int i : new int[] {-1, 0, 100, Integer.MIN_VALUE, Integer.MAX_VALUE}) {
            Refused.by(Refused.NO_ELEMENT, "element(5, " + i + "), nothing held", y -> y.element(5, i));
            Refused.by(Refused.NO_ELEMENT, "element(4, " + i + "), a drawer", y -> y.element(4, i));
            Refused.by(Refused.NO_ELEMENT, "element(6, " + i + "), no bytes", y -> y.element(6, i));
        }
        for (int i : Check.outside(0, 1)) {
            Refused.by(Refused.NO_ELEMENT, "element(0, " + i + ")", y -> y.element(0, i));
        }
        for (int i : Check.outside(0, 2)) {
            Refused.by(Refused.NO_ELEMENT, "element(3, " + i + ")", y -> y.element(3, i));
        }
        AboveIsShut x = Refused.furnished();
        Check.due("element(3, 2) throws nothing", Refused.answer(x, y -> y.element(3, 2)), 70000);
        Check.due("element(3, 0) throws nothing", Refused.answer(x, y -> y.element(3, 0)), 0);
    }

    private static void copy() {
        Check.promise(31, "n elements of the ROW in SHELF d from i on come to that in SHELF e from j on: n.");
        AboveIsShut x = new AboveIsShut();
        for (int sort = 0; sort < 3; sort++) {
            Check.sorted(x, 0, sort, 1, 2, 3, 4);
            Check.sorted(x, 7, sort, 5, 6, 7);
            Check.due("copy", x.copy(0, 2, 7, 0, 2), 2);
            Check.elements(x, 0, 1, 2, 3, 4);
            Check.elements(x, 7, 3, 4, 7);
            Check.due("copy of all", x.copy(7, 0, 0, 1, 3), 3);
            Check.elements(x, 0, 1, 3, 4, 7);
            Check.due("copy of the last to the last", x.copy(0, 0, 7, 2, 1), 1);
            Check.elements(x, 7, 3, 4, 1);
            Check.due("copy of none", x.copy(0, 0, 7, 0, 0), 0);
            Check.due("copy of none behind the last ones", x.copy(0, 4, 7, 3, 0), 0);
            Check.elements(x, 7, 3, 4, 1);
        }
        AboveIsShut none = new AboveIsShut();
        none.row(0, 1, 0);
        none.row(1, 1, 0);
        Check.due("copy of none of none", none.copy(0, 0, 1, 0, 0), 0);
        Check.due("copy of one of none", none.copy(0, 0, 1, 0, 1), -13);
        none.row(0, 2, 100);
        none.row(1, 2, 100);
        none.put(0, 99, Integer.MIN_VALUE);
        Check.due("copy of 100", none.copy(0, 0, 1, 0, 100), 100);
        Check.due("the last of 100", none.element(1, 99), Integer.MIN_VALUE);
    }

    private static void copyOnItself() {
        Check.promise(31, "n elements of the ROW in SHELF d from i on come to that in SHELF e from j on: n.");
        AboveIsShut x = new AboveIsShut();
        for (int sort = 0; sort < 3; sort++) {
            Check.sorted(x, 0, sort, 1, 2, 3, 4, 5);
            Check.due("onwards", x.copy(0, 0, 0, 1, 4), 4);
            Check.elements(x, 0, 1, 1, 2, 3, 4);
            Check.due("backwards", x.copy(0, 2, 0, 0, 3), 3);
            Check.elements(x, 0, 2, 3, 4, 3, 4);
            Check.due("where it is", x.copy(0, 0, 0, 0, 5), 5);
            Check.elements(x, 0, 2, 3, 4, 3, 4);
        }
    }

    private static void copyRefusals() {
        Check.promise(31, "-1, -11 (either), -12 (no ROWS of one SORT), -13 (n below 0, too).");
        for (int d : NO_SHELVES) {
            for (int other = 0; other < 8; other++) {
                int e = other;
                Refused.by(-1, "copy(" + d + ", 0, " + e + ", 0, 1)", y -> y.copy(d, 0, e, 0, 1));
                Refused.by(-1, "copy(" + e + ", 0, " + d + ", 0, 1)", y -> y.copy(e, 0, d, 0, 1));
                Refused.by(-1, "copy(" + e + ", -1, " + d + ", -1, -1)", y -> y.copy(e, -1, d, -1, -1));
            }
            Refused.by(-1, "copy from and to shelf " + d, y -> y.copy(d, 0, d, 0, 1));
        }
        for (int other = 0; other < 8; other++) {
            int e = other;
            for (int n : new int[] {-1, 0, 1, 101}) {
                Refused.by(-11, "nothing held by 5, copy to " + e, y -> y.copy(5, 0, e, 0, n));
                Refused.by(-11, "nothing held by 5, copy from " + e, y -> y.copy(e, 0, 5, 0, n));
                if (e != 5) {
                    Refused.by(-12, "a drawer, copy to " + e, y -> y.copy(4, 0, e, 0, n));
                    Refused.by(-12, "a drawer, copy from " + e, y -> y.copy(e, 0, 4, 0, n));
                }
            }
        }
        for (int n : new int[] {-1, 0, 1, 101}) {
            Refused.by(-12, "bytes to shorts", y -> y.copy(0, 0, 2, 0, n));
            Refused.by(-12, "shorts to ints", y -> y.copy(2, 0, 3, 0, n));
            Refused.by(-12, "ints to bytes", y -> y.copy(3, 0, 1, 0, n));
            Refused.by(-12, "ints to no bytes", y -> y.copy(3, 0, 6, 0, n));
        }
        placesThatAreNotThere();
    }

    /** From the three bytes of shelf 1 to the two of shelf 0, and the other way round. */
    private static void placesThatAreNotThere() {
        Check.term(31, "-13 a place that isn't there (a number or a size that isn't as told, too)");
        int[] far = {-1, Integer.MIN_VALUE, Integer.MIN_VALUE + 1, Integer.MAX_VALUE, Integer.MAX_VALUE - 1, 65536, 256};
        for (int v : far) {
            Refused.by(-13, "n " + v, y -> y.copy(1, 1, 0, 1, v));
            Refused.by(-13, "n " + v + " from and to 0", y -> y.copy(1, 0, 1, 0, v));
            Refused.by(-13, "i " + v, y -> y.copy(1, v, 0, 0, 1));
            Refused.by(-13, "j " + v, y -> y.copy(1, 0, 0, v, 1));
            Refused.by(-13, "i " + v + ", of none", y -> y.copy(1, v, 0, 0, 0));
            Refused.by(-13, "j " + v + ", of none", y -> y.copy(1, 0, 0, v, 0));
            for (int n : far) {
                Refused.by(-13, "i " + v + ", n " + n, y -> y.copy(1, v, 0, 0, n));
                Refused.by(-13, "j " + v + ", n " + n, y -> y.copy(1, 0, 0, v, n));
                Refused.by(-13, "i and j " + v + ", n " + n, y -> y.copy(1, v, 0, v, n));
            }
        }
        for (int i = 0; i <= 4; i++) {
            for (int j = 0; j <= 4; j++) {
                for (int n = 0; n <= 4; n++) {
                    nearTheEnds(i, j, n);
                }
            }
        }
    }

    private static void nearTheEnds(int i, int j, int n) {
        boolean thirdToSecond = i + n <= 3 && j + n <= 2;
        boolean secondToThird = i + n <= 2 && j + n <= 3;
        if (!thirdToSecond) {
            Refused.by(-13, "copy(1, " + i + ", 0, " + j + ", " + n + ")", y -> y.copy(1, i, 0, j, n));
        } else {
            Check.due("copy(1, " + i + ", 0, " + j + ", " + n + ")", Refused.furnished().copy(1, i, 0, j, n), n);
        }
        if (!secondToThird) {
            Refused.by(-13, "copy(0, " + i + ", 1, " + j + ", " + n + ")", y -> y.copy(0, i, 1, j, n));
        } else {
            Check.due("copy(0, " + i + ", 1, " + j + ", " + n + ")", Refused.furnished().copy(0, i, 1, j, n), n);
        }
    }

    private static void costs(int kind, int by0, int by1, int by8, int by9) {
        int[] figures = {0, 1, 8, 9};
        int[] want = {by0, by1, by8, by9};
        for (int i = 0; i < 4; i++) {
            for (int d = 0; d < 8; d++) {
                AboveIsShut x = new AboveIsShut();
                x.keep(d, 1, kind, figures[i]);
                Check.due("cost of kind " + kind + " by " + figures[i], x.cost(d), want[i]);
            }
        }
    }

    private static void cost() {
        Check.promise(32, "COST of the DRAWER on SHELF d.");
        AboveIsShut x = new AboveIsShut();
        x.keep(0, 1, 4, 7);
        Check.due("cost(0)", x.cost(0), 32);
        Check.due("cost(0) once more", x.cost(0), 32);

        Check.term(32, "COST of a DRAWER: DRAWER 4");
        costs(0, 4, 4, 4, 4);
        Check.term(32, "FREE a DRAWER's less 1");
        costs(1, 3, 3, 3, 3);
        Check.term(32, "STUCK a DRAWER's and FIGURE");
        costs(2, 4, 5, 12, 13);
        Check.term(32, "UNDER twice a FREE's");
        costs(3, 6, 6, 6, 6);
        Check.term(32, "OVER a DRAWER's times (FIGURE and 1)");
        costs(4, 4, 8, 36, 40);
        Check.term(32, "LOOSE an UNDER's less FIGURE");
        costs(5, 6, 5, -2, -3);
        Check.term(32, "ODD a FREE's and 5");
        costs(6, 8, 8, 8, 8);
        Check.term(32, "LATCH a DRAWER's.");
        costs(7, 4, 4, 4, 4);
        Check.term(32, "Said once more: \"a and b\" of two numbers is their sum");
        x.keep(0, 1, 2, 3);
        Check.due("4 and 3", x.cost(0), 7);

        Check.promise(32, "-1, -11, -12 (a ROW).");
        for (int d : NO_SHELVES) {
            Refused.by(-1, "cost(" + d + ")", y -> y.cost(d));
        }
        Refused.by(-11, "nothing held", y -> y.cost(5));
        for (int d : new int[] {0, 1, 2, 3, 6}) {
            Refused.by(-12, "a row", y -> y.cost(d));
        }
    }

    private static void tosses(int kind, int by1, int by8, int by9) {
        int[] figures = {1, 8, 9};
        int[] want = {by1, by8, by9};
        for (int i = 0; i < 3; i++) {
            for (int d = 0; d < 8; d++) {
                AboveIsShut x = new AboveIsShut();
                x.keep(d, 1, kind, figures[i]);
                Check.due("toss of kind " + kind + " by " + figures[i], x.toss(d), want[i]);
            }
        }
    }

    private static void toss() {
        Check.promise(33, "The FAILURE of the DRAWER on SHELF d is thrown, and caught: its FIGURE; of OVER ones 100 more; "
            + "of LOOSE ones 200 plus their COST, in place of all that (FIGURE, too).");
        tosses(0, 1, 8, 9);
        tosses(2, 1, 8, 9);
        tosses(3, 1, 8, 9);
        tosses(4, 101, 108, 109);
        tosses(5, 205, 198, 197);
        tosses(6, 1, 8, 9);
        tosses(7, 1, 8, 9);

        Check.promise(33, "-1, -11, -12 (a ROW); -15: FREE ones, and any with FIGURE 0, have none.");
        for (int d : NO_SHELVES) {
            Refused.by(-1, "toss(" + d + ")", y -> y.toss(d));
        }
        Refused.by(-11, "nothing held", y -> y.toss(5));
        for (int d : new int[] {0, 1, 2, 3, 6}) {
            Refused.by(-12, "a row", y -> y.toss(d));
        }

        Check.term(33, "-15 a FAILURE that is none.");
        tosses(1, -15, -15, -15);
        for (int kind = 0; kind < 8; kind++) {
            int kept = kind;
            Refused.by(-15, "kind " + kind + ", figure 0", () -> {
                AboveIsShut x = Refused.furnished();
                x.keep(0, 1, kept, 0);
                return x;
            }, y -> y.toss(0));
        }
    }
}
