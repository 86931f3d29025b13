/** Promises 15 to 17. */
final class HavingTest {
    private HavingTest() {
    }

    public static void main(String[] args) {
        had();
        freed();
        longest();
        Check.end();
    }

    private static void had() {
        AboveIsShut x = Check.walled("d00;d00;d00;");
        Check.due("had(0)", x.had(0), 0);
        Check.due("had(1)", x.had(1), 1);
        Check.due("had(2)", x.had(2), 1);
        Check.due("had(3)", x.had(3), 2);
        Check.due("had(4)", x.had(4), 2);
        Check.due("had(7), whichever way", x.had(7), 4);
        x.stand(2);
        Check.due("one that is open now", x.had(2), 0);
        Check.due("it needn't be open at the end", x.had(6), 3);
        Check.due("had(8)", x.had(8), -1);
        Check.due("had(-1)", x.had(-1), -1);
        Check.due("the standing stays", x.standing(0), 2);
        AboveIsShut stuck = Check.walled("d20;d10;d20;o2;");
        Check.due("had(1) of a stuck one", stuck.had(1), -4);
        Check.due("had(7) with a stuck one", stuck.had(7), -4);
        Check.due("had(4) of an open stuck one", stuck.had(4), 0);
        Check.due("had(6)", stuck.had(6), 1);
        AboveIsShut latch = Check.walled("d10;d70;d70;");
        Check.due("had(7) of latches", latch.had(7), 4);
    }

    private static void freed() {
        AboveIsShut x = Check.walled("d20;d20;d00;");
        Check.due("freed(0)", x.freed(0), 0);
        Check.due("freed(1)", x.freed(1), 1);
        Check.due("freed(2)", x.freed(2), 2);
        Check.due("the highest or the lowest: the least", x.freed(4), 1);
        Check.due("freed(3)", x.freed(3), 3);
        Check.due("freed(7)", x.freed(7), 3);
        x.stand(1);
        Check.due("the highest is open", x.freed(4), 0);
        x.stand(3);
        Check.due("two open above", x.freed(7), 2);
        Check.due("all of them", Check.walled("d20;d20;d20;").freed(7), 7);
        Check.due("the only one", Check.walled("d20;").freed(1), 1);
        Check.due("freed(8)", x.freed(8), -1);
        Check.due("freed(-1)", x.freed(-1), -1);
        Check.due("the drawers stay", x.drawer(0, 0), 2);
        Check.due("one of a higher number alone", Check.walled("d10;d10;d20;d10;").freed(15), 4);
        Check.due("one of a higher number ahead of two lower ones", Check.walled("d20;d20;d09;o0;o1;d20;").freed(4), 2);
    }

    private static void longest() {
        AboveIsShut x = Check.walled("d10;d20;d00;");
        Check.due("the stuck one as a free one, and others", x.longest(1, 0, 1, 1), 1);
        Check.due("of several the least", x.longest(1, 0, 1, 0), 0);
        Check.due("the lowest", x.longest(2, 0, 2, 1), 2);
        Check.due("the lowest's kind", x.longest(2, 0, 2, 0), 0);
        Check.due("no kind of the highest opens the stuck one", x.longest(0, 0, 1, 0), -4);
        Check.due("how many", x.longest(0, 0, 1, 1), -4);
        Check.due("the highest for the lowest", x.longest(0, 0, 2, 1), 2);
        Check.due("by kinds", x.longest(0, 0, 2, 0), 0);
        x.stand(4);
        Check.due("one that is open now", x.longest(0, 5, 2, 1), 0);
        Check.due("its kind", x.longest(0, 5, 2, 0), 0);
        AboveIsShut y = Check.walled("d00;d00;d00;d00;");
        Check.due("an odd one above", y.longest(1, 1, 3, 1), 3);
        AboveIsShut z = Check.walled("d10;d10;d10;o1;");
        Check.due("by the joiner's law", z.longest(2, 5, 2, 0), 0);
        Check.due("the highest, the next, it", z.longest(2, 5, 2, 1), 3);
        AboveIsShut w = Check.walled("d10;d00;d20;o1;");
        Check.due("an over one takes as long", w.longest(0, 1, 2, 1), -4);
        AboveIsShut odd = Check.walled("d00;d10;");
        Check.due("odd ones take longest", odd.longest(0, 1, 0, 0), 6);
        Check.due("odd ones take", odd.longest(0, 1, 0, 1), 2);
        refusals(x);
    }

    private static void refusals(AboveIsShut x) {
        Check.due("no such drawer", x.longest(3, 0, 0, 0), -1);
        Check.due("no such drawer", x.longest(-1, 0, 0, 0), -1);
        Check.due("figure 10", x.longest(0, 10, 0, 0), -1);
        Check.due("figure -1", x.longest(0, -1, 0, 0), -1);
        Check.due("no such other one", x.longest(0, 0, 3, 0), -1);
        Check.due("no such other one", x.longest(0, 0, -1, 0), -1);
        Check.due("what 2", x.longest(0, 0, 0, 2), -1);
        Check.due("what -1", x.longest(0, 0, 0, -1), -1);
    }
}
