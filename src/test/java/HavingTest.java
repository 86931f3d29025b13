/** Promises 15 to 17. */
final class HavingTest {
    private HavingTest() {
    }

    public static void main(String[] args) {
        all();
        Check.end();
    }

    static void all() {
        had();
        freed();
        longest();
        longestRefusals();
    }

    private static void had() {
        Check.promise(15, "HAD; -4.");
        AboveIsShut x = Check.walled("d00;d00;d00;");
        Check.due("had(1)", x.had(1), 1);
        Check.due("had(2)", x.had(2), 1);
        Check.due("had(3)", x.had(3), 2);
        Check.due("had(4)", x.had(4), 2);
        AboveIsShut stuck = Check.walled("d20;d10;d20;o2;");
        Check.due("had(1) of a stuck one", stuck.had(1), -4);
        Check.due("had(7) with a stuck one", stuck.had(7), -4);
        Check.due("had(6)", stuck.had(6), 1);
        Check.due("the standing stays", stuck.standing(0), 4);

        Check.term(15, "HAD: the fewest pulls from now behind which each of told DRAWERS (bits) has been OPEN at some "
            + "time (those that are so now, too); -4.");
        Check.due("none told", x.had(0), 0);
        Check.due("had(7), whichever way", x.had(7), 4);
        x.stand(2);
        Check.due("one that is open now", x.had(2), 0);
        Check.due("it needn't be open at the end", x.had(6), 3);
        Check.due("the standing stays", x.standing(0), 2);
        Check.due("had(4) of an open stuck one", stuck.had(4), 0);
        AboveIsShut latch = Check.walled("d10;d70;d70;");
        Check.due("had(7) of latches", latch.had(7), 4);
        for (int many = 0; many <= 6; many++) {
            int all = (1 << many) - 1;
            AboveIsShut free = Check.alike(many, 1, 0);
            AboveIsShut none = Check.alike(many, 2, 0);
            for (int told = 0; told <= all; told++) {
                Check.due("each told one once", free.had(told), Integer.bitCount(told));
                Check.due("stuck ones", none.had(told), told == 0 ? 0 : -4);
            }
            none.stand(all);
            Check.due("all stuck ones are open", none.had(all), 0);
        }
        AboveIsShut six = Check.alike(6, 0, 0);
        Check.due("the lowest of six", six.had(32), 11);
        Check.due("all six", six.had(63), 23);
        six.stand(31);
        Check.due("from the end of the long way, where the lowest alone is shut", six.had(63), 32);

        Check.promise(15, "-1.");
        for (int many = 0; many <= 6; many++) {
            int drawers = many;
            for (int told : Check.outside(0, (1 << many) - 1)) {
                Refused.by(-1, "had(" + told + ") of " + many, () -> Check.alike(drawers, 1, 0), y -> y.had(told));
            }
        }
        for (int told : Check.outside(0, 15)) {
            Refused.by(-1, "had(" + told + ")", y -> y.had(told));
        }
    }

    private static void freed() {
        Check.promise(16, "FREED (bits).");
        AboveIsShut x = Check.walled("d20;d20;d00;");
        Check.due("freed(1)", x.freed(1), 1);
        Check.due("freed(2)", x.freed(2), 2);
        Check.due("freed(3)", x.freed(3), 3);
        Check.due("freed(7)", x.freed(7), 3);
        Check.due("the drawers stay", x.drawer(0, 0), 2);
        Check.due("the standing stays", x.standing(0), 0);

        Check.term(16, "FREED: the fewest DRAWERS (of several sets the least as bits) by which, if they were of KIND 1, "
            + "HAD of told ones were not -4.");
        Check.due("none told", x.freed(0), 0);
        Check.due("the highest or the lowest: the least", x.freed(4), 1);
        x.stand(1);
        Check.due("the highest is open", x.freed(4), 0);
        x.stand(3);
        Check.due("two open above", x.freed(7), 2);
        Check.due("one of a higher number alone", Check.walled("d10;d10;d20;d10;").freed(15), 4);
        AboveIsShut higher = Check.walled("d20;d20;d09;o0;o1;d20;");
        Check.due("either of two: the least", higher.freed(4), 2);
        AboveIsShut one = Check.walled("d20;d20;d00;d20;");
        Check.due("one of a higher number ahead of two lower ones", one.freed(4 + 1), 1);
        AboveIsShut two = Check.walled("d20;d20;d00;d00;");
        Check.due("one alone ahead of a set of two that is less as bits", two.freed(8), 8);
        for (int many = 0; many <= 6; many++) {
            AboveIsShut stuck = Check.alike(many, 2, 0);
            AboveIsShut free = Check.alike(many, 1, 0);
            for (int told = 0; told < 1 << many; told++) {
                Check.due("each told one, and no other one", stuck.freed(told), told);
                Check.due("free ones need none", free.freed(told), 0);
            }
            stuck.stand((1 << many) - 1);
            Check.due("open ones need none", stuck.freed((1 << many) - 1), 0);
        }

        Check.promise(16, "-1.");
        for (int many = 0; many <= 6; many++) {
            int drawers = many;
            for (int told : Check.outside(0, (1 << many) - 1)) {
                Refused.by(-1, "freed(" + told + ") of " + many, () -> Check.alike(drawers, 2, 0), y -> y.freed(told));
            }
        }
        for (int told : Check.outside(0, 15)) {
            Refused.by(-1, "freed(" + told + ")", y -> y.freed(told));
        }
    }

    private static void longest() {
        Check.promise(17, "LONGEST by the KIND of a DRAWER for another one: the KIND (what 0; -4), "
            + "how many pulls (1; -4).");
        AboveIsShut x = Check.walled("d10;d20;d00;");
        Check.due("no kind of the highest opens the stuck one", x.longest(0, 0, 1, 0), -4);
        Check.due("how many", x.longest(0, 0, 1, 1), -4);
        Check.due("the lowest", x.longest(2, 0, 2, 1), 2);
        Check.due("the lowest's kind", x.longest(2, 0, 2, 0), 0);
        Check.due("the highest for the lowest", x.longest(0, 0, 2, 1), 2);
        Check.due("by kinds", x.longest(0, 0, 2, 0), 0);
        AboveIsShut y = Check.walled("d00;d00;d00;d00;");
        Check.due("an odd one above", y.longest(1, 1, 3, 1), 3);
        AboveIsShut z = Check.walled("d10;d10;d10;o1;");
        Check.due("by the joiner's law", z.longest(2, 5, 2, 0), 0);
        Check.due("the highest, the next, it", z.longest(2, 5, 2, 1), 3);
        AboveIsShut w = Check.walled("d10;d00;d20;o1;");
        Check.due("a stuck one for which none helps", w.longest(0, 1, 2, 1), -4);
        Check.due("the drawers stay", w.drawer(0, 0), 1);
        Check.due("the standing stays", w.standing(0), 2);

        Check.term(17, "LONGEST: the KIND (FIGURE told) of a DRAWER by which HAD of another one (or it) takes most pulls, "
            + "of those by which it can be, of several the least; -4; how many.");
        Check.due("it: by all but the stuck one", x.longest(1, 0, 1, 1), 1);
        Check.due("of several the least", x.longest(1, 0, 1, 0), 0);
        AboveIsShut odd = Check.walled("d00;d10;");
        Check.due("odd ones take longest by 1", odd.longest(0, 1, 0, 0), 6);
        Check.due("so many", odd.longest(0, 1, 0, 1), 2);
        Check.due("by 0 all take as long", odd.longest(0, 0, 0, 0), 0);
        Check.due("so many", odd.longest(0, 0, 0, 1), 1);
        x.stand(4);
        Check.due("one that is open now", x.longest(0, 5, 2, 1), 0);
        Check.due("its kind", x.longest(0, 5, 2, 0), 0);
        AboveIsShut alone = Check.walled("d20;");
        Check.due("the only drawer", alone.longest(0, 9, 0, 0), 0);
        Check.due("so many", alone.longest(0, 9, 0, 1), 1);
        AboveIsShut six = Check.alike(6, 0, 0);
        Check.due("the lowest of six by the joiner's law", six.longest(5, 9, 5, 0), 0);
        Check.due("so many", six.longest(5, 9, 5, 1), 11);
    }

    private static void longestRefusals() {
        Check.promise(17, "-1.");
        for (int drawer : Check.outside(0, 3)) {
            Refused.by(-1, "no drawer " + drawer, y -> y.longest(drawer, 0, 0, 0));
            Refused.by(-1, "no other drawer " + drawer, y -> y.longest(0, 0, drawer, 1));
            Refused.by(-1, "neither drawer " + drawer, y -> y.longest(drawer, 10, drawer, 2));
        }
        for (int figure : Check.outside(0, 9)) {
            Refused.by(-1, "figure " + figure, y -> y.longest(0, figure, 0, 0));
        }
        for (int what : Check.outside(0, 1)) {
            Refused.by(-1, "what " + what, y -> y.longest(3, 9, 3, what));
        }
        Refused.by(-1, "without drawers", Refused::withoutDrawers, y -> y.longest(0, 0, 0, 0));
        Refused.by(-1, "drawer 6 of six", Refused::full, y -> y.longest(6, 0, 0, 0));
        Refused.by(-1, "another one, 6 of six", Refused::full, y -> y.longest(0, 0, 6, 0));
        AboveIsShut x = Refused.furnished();
        for (int drawer = 0; drawer < 4; drawer++) {
            Check.holds("drawers 0 to 3 are told right", x.longest(drawer, 0, 3 - drawer, 0) != -1);
            Check.holds("figures 0 to 9 are told right", x.longest(drawer, 9, drawer, 1) != -1);
        }
    }
}
