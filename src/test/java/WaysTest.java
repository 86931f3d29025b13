/** Promises 9 to 14. */
final class WaysTest {
    /** The joiner's long way with three drawers, from all open on. */
    private static final int[] LONG_WAY = {7, 6, 4, 5, 1, 0, 2, 3};

    private WaysTest() {
    }

    public static void main(String[] args) {
        all();
        Check.end();
    }

    static void all() {
        fewest();
        first();
        far();
        never();
        place();
        placeRefusals();
        at();
        atRefusals();
    }

    private static void fewest() {
        Check.promise(9, "FEWEST from one to another one; -4.");
        AboveIsShut x = Check.walled("d10;d20;d70;");
        Check.due("a stuck one between", x.fewest(0, 2), -4);
        Check.due("a latch to be opened: the stuck one is shut, the first must be open", x.fewest(0, 5), 2);
        Check.due("and the first shut again", x.fewest(0, 4), 3);
        Check.due("a latch to be shut", x.fewest(4, 0), 1);
        Check.due("the stuck one is open", x.fewest(2, 6), -4);
        Check.due("a latch to be shut there", x.fewest(6, 2), 1);
        Check.due("the standing stays", x.standing(0), 0);

        Check.term(9, "FEWEST: the fewest pulls (each that MAY be by then) from a STANDING to another one; -4");
        AboveIsShut joiners = Check.walled("d00;d04;d09;o1;");
        for (int i = 0; i < 8; i++) {
            for (int j = 0; j < 8; j++) {
                Check.due("along the long way", joiners.fewest(LONG_WAY[i], LONG_WAY[j]), Math.abs(i - j));
            }
        }
        Check.due("the standing stays", joiners.standing(0), 2);
        for (int many = 0; many <= 6; many++) {
            int all = (1 << many) - 1;
            AboveIsShut free = Check.alike(many, 1, 0);
            AboveIsShut stuck = Check.alike(many, 2, 0);
            AboveIsShut joiner = Check.alike(many, 0, 0);
            Check.due("no pulls, all open", free.fewest(all, all), 0);
            Check.due("no pulls of stuck ones, all shut", stuck.fewest(0, 0), 0);
            Check.due("no pulls of stuck ones, all open", stuck.fewest(all, all), 0);
            Check.due("each once", free.fewest(0, all), many);
            Check.due("each once", free.fewest(all, 0), many);
            Check.due("no way or none needed", stuck.fewest(0, all), many == 0 ? 0 : -4);
            Check.due("the whole long way", joiner.fewest(all, all >> 1), many == 0 ? 0 : all);
            Check.due("the whole long way back", joiner.fewest(all >> 1, all), many == 0 ? 0 : all);
        }
        AboveIsShut over = Check.walled("d40;");
        Check.due("one that may be opened", over.fewest(0, 1), 1);
        Check.due("and not be shut", over.fewest(1, 0), -4);

        Check.promise(9, "-1 (bits likewise).");
        for (int many = 0; many <= 6; many++) {
            int drawers = many;
            for (int standing : Check.outside(0, (1 << many) - 1)) {
                Refused.by(-1, "fewest(" + standing + ", 0) of " + many, () -> Check.alike(drawers, 1, 0),
                    y -> y.fewest(standing, 0));
                Refused.by(-1, "fewest(0, " + standing + ") of " + many, () -> Check.alike(drawers, 1, 0),
                    y -> y.fewest(0, standing));
                Refused.by(-1, "fewest from and to " + standing + " of " + many, () -> Check.alike(drawers, 1, 0),
                    y -> y.fewest(standing, standing));
            }
        }
        Refused.by(-1, "fewest(16, 15)", y -> y.fewest(16, 15));
        Refused.by(-1, "fewest(15, 16)", y -> y.fewest(15, 16));
    }

    private static void first() {
        Check.promise(10, "FIRST of these; -4.");
        AboveIsShut x = Check.walled("d10;d20;d70;");
        Check.due("first(0, 5)", x.first(0, 5), 0);
        Check.due("first(4, 0)", x.first(4, 0), 2);
        Check.due("first(1, 4)", x.first(1, 4), 2);
        Check.due("first(0, 4)", x.first(0, 4), 0);
        Check.due("first(0, 2)", x.first(0, 2), -4);
        Check.due("the standing stays", x.standing(0), 0);
        AboveIsShut y = Check.walled("d40;d30;d10;");
        Check.due("the highest may never be shut", y.fewest(1, 0), -4);
        Check.due("the second ahead of the highest", y.first(0, 3), 1);

        Check.term(10, "FIRST: the least DRAWER with which such fewest pulls can begin (-4 none, 0 pulls).");
        Check.due("either, so the least", x.first(5, 0), 0);
        Check.due("none", x.first(0, 7), -4);
        for (int from = 0; from < 64; from++) {
            AboveIsShut free = Check.alike(6, 1, 0);
            for (int to = 0; to < 64; to++) {
                int differ = from ^ to;
                Check.due("the least that differs", free.first(from, to),
                    differ == 0 ? -4 : Integer.numberOfTrailingZeros(differ));
            }
        }
        for (int many = 0; many <= 6; many++) {
            int all = (1 << many) - 1;
            AboveIsShut stuck = Check.alike(many, 2, 0);
            Check.due("0 pulls", stuck.first(all, all), -4);
            Check.due("none, or 0 pulls", stuck.first(all, 0), -4);
        }
        AboveIsShut joiners = Check.alike(6, 0, 0);
        Check.due("the lowest alone", joiners.first(0b101111, 0b001111), 5);
        Check.due("the highest, though the lowest could begin, too", joiners.first(0b001111, 0b001110), 0);

        Check.promise(10, "-1.");
        for (int many = 0; many <= 6; many++) {
            int drawers = many;
            for (int standing : Check.outside(0, (1 << many) - 1)) {
                Refused.by(-1, "first(" + standing + ", 0) of " + many, () -> Check.alike(drawers, 1, 0),
                    z -> z.first(standing, 0));
                Refused.by(-1, "first(0, " + standing + ") of " + many, () -> Check.alike(drawers, 1, 0),
                    z -> z.first(0, standing));
                Refused.by(-1, "first from and to " + standing + " of " + many, () -> Check.alike(drawers, 1, 0),
                    z -> z.first(standing, standing));
            }
        }
    }

    private static void far() {
        Check.promise(11, "FAR: how many STANDINGS (what 0), how many pulls (1), which (2).");
        AboveIsShut x = Check.walled("d10;d20;d70;");
        Check.due("far(0)", x.far(0), 4);
        Check.due("far(1)", x.far(1), 3);
        Check.due("far(2)", x.far(2), 4);
        x.stand(2);
        Check.due("far(0) from 2", x.far(0), 2);
        Check.due("far(1) from 2", x.far(1), 1);
        Check.due("far(2) from 2", x.far(2), 3);
        x.stand(6);
        Check.due("far(0) from 6", x.far(0), 4);
        Check.due("far(1) from 6", x.far(1), 2);
        Check.due("far(2) from 6", x.far(2), 3);
        Check.due("the standing stays", x.standing(0), 6);

        Check.term(11, "FAR: how many STANDINGS one can come to from now (now's, too)");
        AboveIsShut none = new AboveIsShut();
        Check.due("of no drawers", none.far(0), 1);
        AboveIsShut stuck = Check.walled("d20;o0;");
        Check.due("of a stuck one", stuck.far(0), 1);

        Check.term(11, "how many pulls the farthest takes");
        Check.due("of no drawers", none.far(1), 0);
        Check.due("of a stuck one", stuck.far(1), 0);
        for (int many = 1; many <= 6; many++) {
            int all = (1 << many) - 1;
            AboveIsShut free = Check.alike(many, 1, 0);
            Check.due("as many standings as there are", free.far(0), all + 1);
            Check.due("each once", free.far(1), many);
            Check.due("all open", free.far(2), all);
            free.stand(all);
            Check.due("all shut", free.far(2), 0);
            AboveIsShut joiners = Check.alike(many, 0, 0);
            joiners.stand(all);
            Check.due("as many standings as there are", joiners.far(0), all + 1);
            Check.due("the whole long way", joiners.far(1), all);
            Check.due("its end", joiners.far(2), all >> 1);
        }

        Check.term(11, "of those the least as bits");
        Check.due("of no drawers", none.far(2), 0);
        Check.due("of a stuck one", stuck.far(2), 1);
        AboveIsShut even = Check.walled("d60;d60;");
        Check.due("either is opened", even.far(0), 3);
        Check.due("by one pull", even.far(1), 1);
        Check.due("the least", even.far(2), 1);
        AboveIsShut odd = Check.walled("d61;d61;o0;o1;");
        Check.due("either is shut", odd.far(0), 3);
        Check.due("by one pull", odd.far(1), 1);
        Check.due("the least", odd.far(2), 1);

        Check.promise(11, "-1.");
        for (int what : Check.outside(0, 2)) {
            Refused.by(-1, "far(" + what + ")", y -> y.far(what));
            Refused.by(-1, "far(" + what + ") without drawers", Refused::withoutDrawers, y -> y.far(what));
        }
    }

    private static void never() {
        Check.promise(12, "NEVER (bits).");
        AboveIsShut x = Check.walled("d10;d20;d70;");
        Check.due("never()", x.never(), 2);
        x.stand(6);
        Check.due("never() with the latch open", x.never(), 2);
        Check.due("the standing stays", x.standing(0), 6);

        Check.term(12, "NEVER: DRAWERS (bits) that MAY be pulled in none of these STANDINGS.");
        x.stand(2);
        Check.due("one that may be pulled in others, to which none can come", x.never(), 6);
        Check.due("below a stuck one", Check.walled("d20;o0;d30;d30;").never(), 3);
        AboveIsShut over = Check.walled("d40;");
        Check.due("in now's alone", over.never(), 0);
        over.stand(1);
        Check.due("no longer", over.never(), 1);
        AboveIsShut late = Check.alike(6, 0, 0);
        late.stand(0b011111);
        Check.due("in one alone that is far", late.never(), 0);
        for (int many = 0; many <= 6; many++) {
            Check.due("of the joiner's", Check.alike(many, 0, 0).never(), 0);
            Check.due("of stuck ones", Check.alike(many, 2, 0).never(), (1 << many) - 1);
        }
    }

    private static void place() {
        Check.promise(13, "PLACE.");
        AboveIsShut x = Check.walled("d00;d04;d09;o1;");
        for (int i = 0; i < 8; i++) {
            Check.due("place(" + LONG_WAY[i] + ")", x.place(LONG_WAY[i]), i);
            Check.due("place, at once", Check.walled("d00;d00;d00;").place(LONG_WAY[i]), i);
        }
        Check.due("the standing stays", x.standing(0), 2);

        Check.term(13, "If all DRAWERS are of KIND 0: PLACE of a STANDING: FEWEST from all OPEN to it");
        for (int many = 0; many <= 6; many++) {
            AboveIsShut joiners = Check.alike(many, 0, 9);
            int all = (1 << many) - 1;
            for (int n = 0; n <= all; n++) {
                int standing = all ^ n ^ n >> 1;
                Check.due("place(" + standing + ") of " + many, joiners.place(standing), n);
                Check.due("fewest from all open", joiners.fewest(all, standing), n);
            }
        }
        AboveIsShut growing = Check.walled("d00;d00;");
        Check.due("place(2) of two", growing.place(2), 1);
        Check.due("one more", Check.read(growing, "d00;"), 1);
        Check.due("place(2) of three", growing.place(2), 6);
    }

    private static void placeRefusals() {
        Check.promise(13, "-1, -3 there is another KIND.");
        for (int many = 0; many <= 6; many++) {
            int drawers = many;
            for (int standing : Check.outside(0, (1 << many) - 1)) {
                Refused.by(-1, "place(" + standing + ") of " + many, () -> Check.alike(drawers, 0, 0),
                    y -> y.place(standing));
                Refused.by(-1, "place(" + standing + ") of " + many + " or none of another kind",
                    () -> Check.alike(drawers, 7, 0), y -> y.place(standing));
            }
        }
        for (int standing : Check.outside(0, 15)) {
            Refused.by(-1, "place(" + standing + "), and there are other kinds", y -> y.place(standing));
        }
        Refused.by(-3, "place(0)", y -> y.place(0));
        Refused.by(-3, "place(15)", y -> y.place(15));
        for (int kind = 1; kind < 8; kind++) {
            for (String text : otherKindAt(kind)) {
                Check.due("place(0) of " + text, Check.walled(text).place(0), -3);
                Check.due("place(1) of " + text, Check.walled(text).place(1), -3);
                Check.due("place(-1) of " + text, Check.walled(text).place(-1), -1);
            }
        }
    }

    /** Walls of up to six drawers of which one alone is no joiner's: the highest, one between, the lowest. */
    private static String[] otherKindAt(int kind) {
        String other = "d" + kind + "0;";
        return new String[] {other, other + "d00;", "d00;" + other, "d00;" + other + "d00;",
            other + "d00;".repeat(5), "d00;".repeat(5) + other};
    }

    private static void at() {
        Check.promise(14, "AT n; -4.");
        AboveIsShut x = Check.walled("d00;d04;d09;o1;");
        for (int i = 0; i < 8; i++) {
            Check.due("at(" + i + ")", x.at(i), LONG_WAY[i]);
            Check.due("at, at once", Check.walled("d00;d00;d00;").at(i), LONG_WAY[i]);
        }
        Check.due("the standing stays", x.standing(0), 2);

        Check.term(14, "AT n: the STANDING whose PLACE is n (-4 none).");
        for (int many = 0; many <= 6; many++) {
            AboveIsShut joiners = Check.alike(many, 0, 9);
            int all = (1 << many) - 1;
            for (int n = 0; n <= all; n++) {
                Check.due("at(" + n + ") of " + many, joiners.at(n), all ^ n ^ n >> 1);
            }
            for (int n : new int[] {all + 1, all + 2, 64, 256, 65536, Integer.MAX_VALUE}) {
                Check.due("at(" + n + ") of " + many, joiners.at(n), -4);
            }
        }
        AboveIsShut growing = Check.walled("d00;d00;");
        Check.due("at(4) of two", growing.at(4), -4);
        Check.due("two more", Check.read(growing, "d00;d00;"), 2);
        Check.due("at(15) of four", growing.at(15), 7);
        growing.fewest(0, 0);
        Check.due("at(10) of four", growing.at(10), 0);
        AboveIsShut fewer = Check.walled("d00;d00;");
        fewer.image();
        Check.due("four more", Check.read(fewer, "d00;d00;d00;d00;"), 4);
        Check.due("had of six", fewer.had(63), 23);
        Check.due("at(63) of six", fewer.at(63), 31);
        Check.due("two again", fewer.restore(), 0);
        for (int n = 0; n <= 63; n++) {
            Check.due("at(" + n + ") of two, behind six", fewer.at(n), n < 4 ? 3 ^ n ^ n >> 1 : -4);
        }
    }

    private static void atRefusals() {
        Check.promise(14, "-1 below 0, -3 there is another KIND.");
        for (int n : new int[] {-1, -2, -256, -65536, Integer.MIN_VALUE, Integer.MIN_VALUE + 1}) {
            Refused.by(-1, "at(" + n + ")", Refused::joiners, y -> y.at(n));
            Refused.by(-1, "at(" + n + ") without drawers", Refused::withoutDrawers, y -> y.at(n));
            Refused.by(-1, "at(" + n + "), and there are other kinds", y -> y.at(n));
        }
        for (int n : new int[] {0, 15, 16, Integer.MAX_VALUE}) {
            Refused.by(-3, "at(" + n + ")", y -> y.at(n));
        }
        for (int kind = 1; kind < 8; kind++) {
            for (String text : otherKindAt(kind)) {
                Check.due("at(0) of " + text, Check.walled(text).at(0), -3);
                Check.due("at(64) of " + text, Check.walled(text).at(64), -3);
                Check.due("at(-1) of " + text, Check.walled(text).at(-1), -1);
            }
        }
    }
}
