/** Promises 18 to 20. */
final class LawsTest {
    private LawsTest() {
    }

    public static void main(String[] args) {
        tried();
        triedRefusals();
        next();
        game();
        Check.end();
    }

    private static void tried() {
        AboveIsShut x = Check.walled("d10;d10;d20;");
        Check.bytes(x, 0);
        Check.due("no trials", x.tried(0, 1, 0), 255);
        Check.bytes(x, 0, 1, 1);
        Check.due("all but the stuck one, and an odd one by figure 1", x.tried(0, 1, 1), 0b10111011);
        Check.due("all but the stuck one", x.tried(0, 1, 0), 0b11111011);
        Check.bytes(x, 0, 1, 0);
        Check.due("the stuck one", x.tried(0, 1, 0), 0b00000100);
        Check.bytes(x, 0, 0, 1, 1, 1);
        Check.due("with the one above open", x.tried(0, 1, 1), 0b01100010);
        Check.bytes(x, 0, 0, 1, 1, 0);
        Check.due("with the one above open, not moved", x.tried(0, 1, 1), 0b10011101);
        Check.bytes(x, 0, 1, 1, 0, 1, 1, 1);
        Check.due("a latch shuts", x.tried(0, 1, 9), 0b10000010);
        Check.bytes(x, 0, 2, 1);
        Check.due("another one told against its law", x.tried(0, 1, 0), 0);
        Check.bytes(x, 0, 2, 0);
        Check.due("another one told by its law", x.tried(0, 1, 0), 255);
        Check.due("the row stays", x.element(0, 0), 2);
        Check.due("the standing stays", x.standing(0), 0);
        Check.due("the drawers stay", x.drawer(1, 0), 1);
    }

    private static void triedRefusals() {
        AboveIsShut x = Check.walled("d10;d10;");
        Check.due("shelf -1", x.tried(-1, 0, 0), -1);
        Check.due("shelf 8", x.tried(8, 0, 0), -1);
        Check.due("drawer 2, nothing held", x.tried(0, 2, 0), -1);
        Check.due("drawer -1", x.tried(0, -1, 0), -1);
        Check.due("figure 10", x.tried(0, 0, 10), -1);
        Check.due("figure -1", x.tried(0, 0, -1), -1);
        Check.due("nothing held", x.tried(0, 0, 0), -11);
        x.keep(0, 1, 0, 0);
        Check.due("a drawer", x.tried(0, 0, 0), -12);
        Check.sorted(x, 0, 1, 0, 1);
        Check.due("shorts", x.tried(0, 0, 0), -12);
        Check.sorted(x, 0, 2, 0, 1, 1);
        Check.due("ints of an odd size", x.tried(0, 0, 0), -12);
        Check.bytes(x, 0, 0, 1, 1);
        Check.due("an odd size", x.tried(0, 0, 0), -13);
        Check.bytes(x, 0, 0, 1, 2, 1);
        Check.due("no such drawer", x.tried(0, 0, 0), -13);
        Check.bytes(x, 0, 0, 0, 0, 0, 0, 0, -1, 1);
        Check.due("no such drawer behind what fits none", x.tried(0, 0, 0), -13);
        Check.bytes(x, 0, 0, 2);
        Check.due("neither moved nor not", x.tried(0, 0, 0), -13);
        Check.bytes(x, 0, 0, -1);
        Check.due("neither moved nor not", x.tried(0, 0, 0), -13);
    }

    private static void next() {
        AboveIsShut x = Check.walled("d00;d00;d00;");
        Check.due("one kind", x.next(0, 0, 1, 1), 1);
        Check.due("one kind: the least standing", x.next(0, 0, 1, 0), 0);
        Check.due("free and stuck", x.next(2, 0, 6, 1), 1);
        Check.due("free and stuck, anywhere", x.next(2, 0, 6, 0), 0);
        Check.due("free and the joiner's: where that may not", x.next(1, 0, 3, 0), 1);
        Check.due("free and the joiner's", x.next(1, 0, 3, 1), 1);
        Check.due("under and the joiner's: where all above are not open", x.next(2, 0, 9, 0), 0);
        Check.due("under and the joiner's, below one alone", x.next(1, 0, 9, 1), 2);
        Check.due("under and the joiner's, below one alone", x.next(1, 0, 9, 0), 0);
        Check.due("the joiner's and a latch", x.next(1, 0, 129, 0), 3);
        x.stand(5);
        Check.due("from any standing", x.next(1, 0, 129, 0), 3);
        Check.due("the standing stays", x.standing(0), 5);
        Check.due("free and over: that one alone open", x.next(0, 2, 18, 0), 4);
        Check.due("under, over: all open", Check.walled("d00;").next(0, 0, 18, 0), 1);
        Check.due("all open, one of two", Check.walled("d00;").next(0, 0, 18, 1), 1);
        Check.due("no such drawer", x.next(3, 0, 1, 0), -1);
        Check.due("no such drawer", x.next(-1, 0, 1, 0), -1);
        Check.due("figure 10", x.next(0, 10, 1, 0), -1);
        Check.due("figure -1", x.next(0, -1, 1, 0), -1);
        Check.due("no kinds", x.next(0, 0, 0, 0), -1);
        Check.due("kinds 256", x.next(0, 0, 256, 0), -1);
        Check.due("kinds 255", x.next(0, 0, 255, 1), 5);
        Check.due("kinds -1", x.next(0, 0, -1, 0), -1);
        Check.due("what 2", x.next(0, 0, 1, 2), -1);
        Check.due("what -1", x.next(0, 0, 1, -1), -1);
    }

    private static void game() {
        AboveIsShut x = Check.walled("d10;d10;");
        Check.due("no turn, shut", x.game(0, 0), 0);
        Check.due("one turn", x.game(0, 1), 1);
        Check.due("the other one shuts it", x.game(0, 2), 0);
        Check.due("the first has the last turn", x.game(0, 3), 1);
        Check.due("four turns", x.game(0, 4), 0);
        Check.due("five turns", x.game(0, 5), 1);
        x.stand(1);
        Check.due("no turn, open", x.game(0, 0), 1);
        Check.due("one turn: none is pulled", x.game(0, 1), 1);
        Check.due("no turn, the other drawer", x.game(1, 0), 0);
        AboveIsShut stuck = Check.walled("d20;o0;d20;");
        for (int n = 0; n <= 5; n++) {
            Check.due("a stuck one is open", stuck.game(0, n), 1);
            Check.due("a stuck one is shut", stuck.game(1, n), 0);
        }
        AboveIsShut over = Check.walled("d40;");
        Check.due("what is opened stays open", over.game(0, 2), 1);
        AboveIsShut joiners = Check.walled("d00;d00;");
        Check.due("the first opens the lower one, and the other one shuts it", joiners.game(1, 2), 0);
        joiners.stand(2);
        Check.due("the first opens the upper one above it", joiners.game(1, 2), 1);
        Check.due("no such drawer", joiners.game(2, 0), -1);
        Check.due("no such drawer", joiners.game(-1, 0), -1);
        Check.due("six turns", joiners.game(0, 6), -1);
        Check.due("turns below 0", joiners.game(0, -1), -1);
        Check.due("the standing stays", joiners.standing(0), 2);
    }
}
