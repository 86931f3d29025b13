/** Promises 18 to 20. */
final class LawsTest {
    private LawsTest() {
    }

    public static void main(String[] args) {
        all();
        Check.end();
    }

    static void all() {
        tried();
        triedRefusals();
        next();
        nextRefusals();
        game();
        gameRefusals();
    }

    private static void tried() {
        Check.promise(18, "TRIED by the ROW in SHELF d: KINDS (bits) of a DRAWER.");
        AboveIsShut x = Check.walled("d10;d10;d20;");
        Check.bytes(x, 0, 1, 1);
        Check.due("all but the stuck one, and an odd one by figure 1", x.tried(0, 1, 1), 0b10111011);
        Check.due("all but the stuck one", x.tried(0, 1, 0), 0b11111011);
        Check.bytes(x, 0, 1, 0);
        Check.due("the stuck one", x.tried(0, 1, 0), 0b00000100);
        for (int d = 0; d < 8; d++) {
            Check.bytes(x, d, 1, 0);
            Check.due("on shelf " + d, x.tried(d, 1, 0), 0b00000100);
        }

        Check.term(18, "TRIED: a ROW of bytes, by twos a DRAWER and whether it moved when it was tried (1, 0; one that "
            + "moved is pulled then), one behind the other from now: KINDS (bits; FIGURE told) of a DRAWER by which all "
            + "of that would be so.");
        Check.bytes(x, 0);
        Check.due("no trials: all kinds", x.tried(0, 1, 0), 255);
        Check.due("by the highest figure", x.tried(0, 2, 9), 255);
        Check.bytes(x, 0, 0, 1, 1, 1);
        Check.due("with the one above open", x.tried(0, 1, 1), 0b01100010);
        Check.bytes(x, 0, 0, 1, 1, 0);
        Check.due("with the one above open, not moved", x.tried(0, 1, 1), 0b10011101);
        Check.bytes(x, 0, 1, 1, 0, 1, 1, 1);
        Check.due("a latch shuts", x.tried(0, 1, 9), 0b10000010);
        Check.bytes(x, 0, 2, 1);
        Check.due("another one told against its law: no kind", x.tried(0, 1, 0), 0);
        Check.bytes(x, 0, 2, 0);
        Check.due("another one told by its law", x.tried(0, 1, 0), 255);
        Check.bytes(x, 0, 1, 0, 1, 0);
        Check.due("one that did not move stays as it is", x.tried(0, 1, 1), 0b01000100);
        Check.bytes(x, 0, 1, 0, 0, 1, 1, 0);
        Check.due("the last one alone is against an odd one", x.tried(0, 1, 1), 0b00000100);
        Check.bytes(x, 0, new int[100]);
        Check.due("50 trials, against its law", x.tried(0, 1, 0), 0);
        x.stand(1);
        Check.bytes(x, 0, 1, 1);
        Check.due("from now, with the one above open", x.tried(0, 1, 1), 0b01100010);
        AboveIsShut six = Check.alike(6, 1, 0);
        int[] fifty = new int[100];
        for (int i = 0; i < 100; i += 2) {
            fifty[i] = 5;
            fifty[i + 1] = 1;
        }
        Check.bytes(six, 0, fifty);
        Check.due("50 trials of the lowest by 5 others shut, and figure 0", six.tried(0, 5, 0), 0b01101010);
        fifty[99] = 0;
        Check.bytes(six, 0, fifty);
        Check.due("the last of which is told otherwise", six.tried(0, 5, 0), 0);

        Check.term(18, "The ROW that is read, and what is taken from a SHELF, stay there");
        Check.due("the row stays", six.element(0, 0), 5);
        Check.due("the standing stays", x.standing(0), 1);
        Check.due("the drawers stay", x.drawer(1, 0), 1);
    }

    private static void triedRefusals() {
        Check.promise(18, "-1, -11, -12 (no ROW of bytes), -13 (an odd size, not as told).");
        for (int d : Check.outside(0, 7)) {
            Refused.by(-1, "tried(" + d + ", 0, 0)", y -> y.tried(d, 0, 0));
        }
        for (int wrong : Check.outside(0, 3)) {
            for (int d = 0; d < 8; d++) {
                int shelf = d;
                Refused.by(-1, "shelf " + d + ", drawer " + wrong, y -> y.tried(shelf, wrong, 0));
            }
        }
        for (int figure : Check.outside(0, 9)) {
            for (int d = 0; d < 8; d++) {
                int shelf = d;
                Refused.by(-1, "shelf " + d + ", figure " + figure, y -> y.tried(shelf, 0, figure));
            }
        }
        Refused.by(-1, "without drawers", Refused::withoutDrawers, y -> y.tried(0, 0, 0));
        Refused.by(-1, "drawer 6 of six", Refused::full, y -> y.tried(0, 6, 0));
        Refused.by(-11, "nothing held", y -> y.tried(5, 3, 9));
        Refused.by(-12, "a drawer", y -> y.tried(4, 3, 9));
        Refused.by(-12, "shorts", y -> y.tried(2, 0, 0));
        Refused.by(-12, "ints of an odd size", y -> y.tried(3, 0, 0));
        Refused.by(-13, "bytes of an odd size", y -> y.tried(1, 0, 0));
        triedWrong("one byte", 0);
        triedWrong("99 bytes", new int[99]);
        triedWrong("no such drawer", 4, 0);
        triedWrong("no such drawer, far from it", 127, 0);
        triedWrong("no such drawer, below 0", -1, 1);
        triedWrong("no such drawer, far below 0", -128, 1);
        triedWrong("no such drawer at the end", 0, 1, 0, 0, 4, 1);
        triedWrong("no such drawer behind what fits no kind", 0, 0, 0, 0, -1, 1);
        triedWrong("neither moved nor not", 0, 2);
        triedWrong("neither moved nor not, below 0", 0, -1);
        triedWrong("neither moved nor not at the end", 0, 1, 0, 127);
        triedWrong("no such drawer, nor moved", 4, 2);
        triedWrong("of an odd size, and no such drawer", 4, 0, 0);
        AboveIsShut x = Refused.furnished();
        Check.bytes(x, 5, 3, 0, 3, 0);
        Check.due("the last drawer there is, and that it did not move", x.tried(5, 0, 9), 255);
        Check.bytes(x, 5, 0, 1, 0, 1);
        Check.due("the first drawer, and that it moved", x.tried(5, 3, 0), 255);
    }

    private static void triedWrong(String told, int... trials) {
        Refused.by(-13, told, () -> {
            AboveIsShut x = Refused.furnished();
            Check.bytes(x, 5, trials);
            return x;
        }, y -> y.tried(5, 0, 0));
    }

    private static void next() {
        Check.promise(19, "NEXT: the STANDING (what 0), how many (1).");
        AboveIsShut x = Check.walled("d00;d00;d00;");
        Check.due("free and the joiner's: where that may not", x.next(1, 0, 3, 0), 1);
        Check.due("free and the joiner's", x.next(1, 0, 3, 1), 1);
        Check.due("the joiner's and a latch", x.next(1, 0, 129, 0), 3);
        x.stand(5);
        Check.due("from any standing", x.next(1, 0, 129, 0), 3);
        Check.due("the standing stays", x.standing(0), 5);

        Check.term(19, "NEXT: of all STANDINGS that one in which of KINDS told as bits (FIGURE told) for a DRAWER the "
            + "greater part (those by which it MAY be pulled there, those by which not) is least, of several the least; "
            + "how many that part are.");
        for (int kind = 0; kind < 8; kind++) {
            for (int drawer = 0; drawer < 3; drawer++) {
                Check.due("one kind", x.next(drawer, kind, 1 << kind, 1), 1);
                Check.due("one kind, of all standings the least", x.next(drawer, kind, 1 << kind, 0), 0);
            }
        }
        Check.due("free and stuck", x.next(2, 0, 6, 1), 1);
        Check.due("free and stuck, anywhere", x.next(2, 0, 6, 0), 0);
        Check.due("under and the joiner's: where not all above are open", x.next(2, 0, 9, 0), 0);
        Check.due("under and the joiner's, below one alone", x.next(1, 0, 9, 1), 2);
        Check.due("under and the joiner's, below one alone", x.next(1, 0, 9, 0), 0);
        Check.due("free and over: that one alone open", x.next(0, 2, 18, 0), 4);
        Check.due("free and over: by the lowest alone", x.next(0, 2, 18, 1), 1);
        Check.due("free and over none", x.next(0, 3, 18, 1), 2);
        AboveIsShut one = Check.walled("d00;");
        Check.due("over itself: all open", one.next(0, 0, 18, 0), 1);
        Check.due("all open, one of two", one.next(0, 0, 18, 1), 1);
        Check.due("all kinds, by 0: an over one and the stuck one may not", one.next(0, 0, 255, 0), 1);
        Check.due("so the others are six", one.next(0, 0, 255, 1), 6);
        Check.due("all kinds, by 1: an odd one and the stuck one may not", one.next(0, 1, 255, 0), 0);
        Check.due("so the others are six", one.next(0, 1, 255, 1), 6);
        Check.due("all kinds", x.next(0, 0, 255, 1), 5);
        AboveIsShut six = Check.alike(6, 2, 0);
        Check.due("over the lowest of six: the last standing but those that are less", six.next(0, 5, 18, 0), 32);
        Check.due("a latch and under: where both above and it are open", six.next(5, 0, 136, 0), 0);
        Check.due("loose by 6 and stuck: all may or not", six.next(5, 6, 36, 1), 1);
        Check.due("loose by 6, and under, below an open one: the last standing", six.next(5, 6, 40, 0), 63);
        Check.due("by which they differ", six.next(5, 6, 40, 1), 1);
        Check.due("loose by 7, and under: no standing", six.next(5, 7, 40, 0), 0);
        Check.due("by which they differ", six.next(5, 7, 40, 1), 2);
    }

    private static void nextRefusals() {
        Check.promise(19, "-1 (KINDS 1 .. 255).");
        for (int drawer : Check.outside(0, 3)) {
            Refused.by(-1, "drawer " + drawer, y -> y.next(drawer, 0, 1, 0));
        }
        for (int figure : Check.outside(0, 9)) {
            Refused.by(-1, "figure " + figure, y -> y.next(0, figure, 1, 1));
        }
        for (int kinds : Check.outside(1, 255)) {
            Refused.by(-1, "kinds " + kinds, y -> y.next(0, 0, kinds, 0));
            Refused.by(-1, "kinds " + kinds, y -> y.next(3, 9, kinds, 1));
        }
        Refused.by(-1, "kinds 0", y -> y.next(0, 0, 0, 0));
        Refused.by(-1, "kinds 256", y -> y.next(0, 0, 256, 0));
        for (int what : Check.outside(0, 1)) {
            Refused.by(-1, "what " + what, y -> y.next(3, 9, 255, what));
        }
        Refused.by(-1, "without drawers", Refused::withoutDrawers, y -> y.next(0, 0, 1, 0));
        Refused.by(-1, "drawer 6 of six", Refused::full, y -> y.next(6, 0, 1, 0));
        AboveIsShut x = Refused.full();
        Check.due("drawer 5 of six, figure 9, kinds 1", x.next(5, 9, 1, 1), 1);
        Check.due("drawer 0, figure 0, kinds 128", x.next(0, 0, 128, 1), 1);
        Check.holds("kinds 255 are told right", x.next(5, 9, 255, 0) >= 0);
    }

    private static void game() {
        Check.promise(20, "GAME: 1, 0.");
        AboveIsShut x = Check.walled("d10;d10;");
        Check.due("no turn, shut", x.game(0, 0), 0);
        Check.due("one turn", x.game(0, 1), 1);
        x.stand(1);
        Check.due("no turn, open", x.game(0, 0), 1);
        Check.due("no turn, the other drawer", x.game(1, 0), 0);
        Check.due("the standing stays", x.standing(0), 1);

        Check.term(20, "GAME: two by turns, the first begins, n turns (0 .. 5) in all: each pulls one that MAY be, or none: "
            + "whether the first can have a told DRAWER OPEN behind all, whatever the other one does: 1, 0.");
        Check.due("one turn: none is pulled", x.game(0, 1), 1);
        x.stand(0);
        Check.due("the other one shuts it", x.game(0, 2), 0);
        Check.due("the first has the last turn", x.game(0, 3), 1);
        Check.due("four turns", x.game(0, 4), 0);
        Check.due("five turns", x.game(0, 5), 1);
        AboveIsShut lone = Check.alike(1, 1, 0);
        for (int n = 0; n <= 5; n++) {
            lone.stand(0);
            Check.due("a lone one is shut, turns " + n, lone.game(0, n), n % 2);
            lone.stand(1);
            Check.due("a lone one is open: who would lose by a pull pulls none, turns " + n, lone.game(0, n),
                n == 0 ? 1 : n % 2);
        }
        AboveIsShut stuck = Check.walled("d20;o0;d20;");
        for (int n = 0; n <= 5; n++) {
            Check.due("a stuck one is open", stuck.game(0, n), 1);
            Check.due("a stuck one is shut", stuck.game(1, n), 0);
        }
        AboveIsShut over = Check.walled("d40;");
        Check.due("what is opened stays open", over.game(0, 2), 1);
        Check.due("none has a turn", over.game(0, 0), 0);
        AboveIsShut joiners = Check.walled("d00;d00;");
        Check.due("the first opens the lower one, and the other one shuts it", joiners.game(1, 2), 0);
        joiners.stand(2);
        Check.due("the first opens the upper one above it", joiners.game(1, 2), 1);
        AboveIsShut below = Check.walled("d70;d40;d10;");
        Check.due("it may be opened", below.game(1, 1), 1);
        below.stand(1);
        Check.due("it may not be opened below an open one", below.game(1, 1), 0);
        Check.due("the other one opens again what the first shuts", below.game(1, 3), 0);
        AboveIsShut six = Check.alike(6, 0, 0);
        six.stand(0b000111);
        Check.due("the first is one pull from it, and has the last turn", six.game(4, 5), 1);
        Check.due("the other one has the last turn", six.game(4, 4), 0);
        six.stand(0b000100);
        Check.due("the first alone could by three pulls", six.had(16), 3);
        Check.due("the other one pulls against it", six.game(4, 5), 0);
    }

    private static void gameRefusals() {
        Check.promise(20, "-1.");
        for (int drawer : Check.outside(0, 3)) {
            Refused.by(-1, "drawer " + drawer, y -> y.game(drawer, 0));
            Refused.by(-1, "drawer " + drawer + ", turns 6", y -> y.game(drawer, 6));
        }
        for (int n : Check.outside(0, 5)) {
            Refused.by(-1, "turns " + n, y -> y.game(0, n));
            Refused.by(-1, "turns " + n, y -> y.game(3, n));
        }
        Refused.by(-1, "without drawers", Refused::withoutDrawers, y -> y.game(0, 0));
        Refused.by(-1, "drawer 6 of six", Refused::full, y -> y.game(6, 0));
        AboveIsShut x = Check.alike(6, 1, 0);
        Check.due("drawer 5 of six, five turns", x.game(5, 5), 1);
        Check.due("drawer 5 of six, no turn", x.game(5, 0), 0);
    }
}
