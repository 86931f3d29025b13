/** Promises 9 to 14. */
final class WaysTest {
    /** The joiner's long way with three drawers, from all open on. */
    private static final int[] LONG_WAY = {7, 6, 4, 5, 1, 0, 2, 3};

    private WaysTest() {
    }

    public static void main(String[] args) {
        alongTheLongWay();
        alongTheLongWayAtOnce();
        fewestByOtherLaws();
        first();
        far();
        never();
        refusalsOfTheLongWay();
        Check.end();
    }

    private static void alongTheLongWay() {
        AboveIsShut x = Check.walled("d00;d04;d09;o1;");
        for (int i = 0; i < 8; i++) {
            Check.due("place(" + LONG_WAY[i] + ")", x.place(LONG_WAY[i]), i);
            Check.due("at(" + i + ")", x.at(i), LONG_WAY[i]);
            for (int j = 0; j < 8; j++) {
                Check.due("fewest", x.fewest(LONG_WAY[i], LONG_WAY[j]), Math.abs(i - j));
            }
        }
        Check.due("at(8)", x.at(8), -4);
        Check.due("at(max)", x.at(Integer.MAX_VALUE), -4);
        Check.due("the standing stays", x.standing(0), 2);
    }

    private static void fewestByOtherLaws() {
        AboveIsShut x = Check.walled("d10;d20;d70;");
        Check.due("fewest(0, 0)", x.fewest(0, 0), 0);
        Check.due("fewest(2, 2)", x.fewest(2, 2), 0);
        Check.due("a stuck one between", x.fewest(0, 2), -4);
        Check.due("a latch to be opened: the stuck one is shut, the first must be open", x.fewest(0, 5), 2);
        Check.due("and the first shut again", x.fewest(0, 4), 3);
        Check.due("a latch to be shut", x.fewest(4, 0), 1);
        Check.due("the stuck one is open", x.fewest(2, 6), -4);
        Check.due("a latch to be shut there", x.fewest(6, 2), 1);
        refusedPairs(x, 8);
    }

    private static void first() {
        AboveIsShut x = Check.walled("d10;d20;d70;");
        Check.due("first(0, 0)", x.first(0, 0), -4);
        Check.due("first(0, 2)", x.first(0, 2), -4);
        Check.due("first(0, 5)", x.first(0, 5), 0);
        Check.due("first(5, 0): either, so the least", x.first(5, 0), 0);
        Check.due("first(4, 0)", x.first(4, 0), 2);
        Check.due("first(1, 4)", x.first(1, 4), 2);
        Check.due("first(0, 4)", x.first(0, 4), 0);
        AboveIsShut y = Check.walled("d40;d30;d10;");
        Check.due("the highest may never be shut", y.fewest(1, 0), -4);
        Check.due("the second ahead of the highest", y.first(0, 3), 1);
        Check.due("fewest", y.fewest(0, 3), 2);
    }

    private static void refusedPairs(AboveIsShut x, int beyond) {
        int[] wrong = {-1, beyond, Integer.MIN_VALUE, Integer.MAX_VALUE, 64};
        for (int standing : wrong) {
            Check.due("fewest(.., 0)", x.fewest(standing, 0), -1);
            Check.due("fewest(0, ..)", x.fewest(0, standing), -1);
            Check.due("first(.., 0)", x.first(standing, 0), -1);
            Check.due("first(0, ..)", x.first(0, standing), -1);
        }
    }

    private static void far() {
        AboveIsShut x = Check.walled("d10;d20;d70;");
        Check.due("far(0)", x.far(0), 4);
        Check.due("far(1)", x.far(1), 3);
        Check.due("far(2)", x.far(2), 4);
        x.stand(2);
        Check.due("far(0) from 2", x.far(0), 2);
        Check.due("far(1) from 2", x.far(1), 1);
        Check.due("far(2) from 2", x.far(2), 3);
        x.stand(6);
        Check.due("far(0) from 6", x.far(0), 4);
        Check.due("far(1) from 6", x.far(1), 2);
        Check.due("far(2) from 6", x.far(2), 3);
        Check.due("far(3)", x.far(3), -1);
        Check.due("far(-1)", x.far(-1), -1);
        AboveIsShut two = Check.walled("d10;d40;");
        two.stand(2);
        Check.due("two as far: the least", two.far(2), 1);
        AboveIsShut stuck = Check.walled("d20;o0;");
        Check.due("far(0) of a stuck one", stuck.far(0), 1);
        Check.due("far(1) of a stuck one", stuck.far(1), 0);
        Check.due("far(2) of a stuck one", stuck.far(2), 1);
    }

    private static void never() {
        AboveIsShut x = Check.walled("d10;d20;d70;");
        Check.due("never()", x.never(), 2);
        x.stand(2);
        Check.due("never() with the stuck one open", x.never(), 6);
        x.stand(6);
        Check.due("never() with the latch open", x.never(), 2);
        Check.due("never() of the joiner's", Check.walled("d00;d00;d00;").never(), 0);
        Check.due("never() of stuck ones", Check.walled("d20;d20;").never(), 3);
        Check.due("never() below a stuck one", Check.walled("d20;o0;d30;d30;").never(), 3);
    }

    /** Each on an object that was asked nothing before, or that has changed since. */
    private static void alongTheLongWayAtOnce() {
        for (int i = 0; i < 8; i++) {
            Check.due("place", Check.walled("d00;d00;d00;").place(LONG_WAY[i]), i);
            Check.due("at", Check.walled("d00;d00;d00;").at(i), LONG_WAY[i]);
        }
        AboveIsShut x = Check.walled("d00;d00;");
        Check.due("place(2) of two", x.place(2), 1);
        Check.due("one more", Check.read(x, "d00;"), 1);
        Check.due("place(2) of three", x.place(2), 6);
        Check.due("one more", Check.read(x, "d00;"), 1);
        Check.due("at(15) of four", x.at(15), 7);
        x.fewest(0, 0);
        Check.due("at(10) of four", x.at(10), 0);
    }

    private static void refusalsOfTheLongWay() {
        AboveIsShut x = Check.walled("d00;d00;");
        Check.due("place(-1)", x.place(-1), -1);
        Check.due("place(4)", x.place(4), -1);
        Check.due("at(-1)", x.at(-1), -1);
        for (int kind = 1; kind < 8; kind++) {
            AboveIsShut other = Check.walled("d00;d" + kind + "0;");
            Check.due("place(0)", other.place(0), -3);
            Check.due("place(4)", other.place(4), -1);
            Check.due("at(0)", other.at(0), -3);
            Check.due("at(9)", other.at(9), -3);
            Check.due("at(-1)", other.at(-1), -1);
        }
        AboveIsShut none = new AboveIsShut();
        Check.due("place(0) without drawers", none.place(0), 0);
        Check.due("at(0) without drawers", none.at(0), 0);
        Check.due("at(1) without drawers", none.at(1), -4);
    }
}
