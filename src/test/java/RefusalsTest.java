/** Promises 2 to 33: what each refusal means, and calls at which two of them hold or more. */
final class RefusalsTest {
    private RefusalsTest() {
    }

    public static void main(String[] args) {
        all();
        Check.end();
    }

    static void all() {
        meanings();
        wrongAheadOfAll();
        shelvesAheadOfOthers();
        copies();
    }

    private static void meanings() {
        Check.term(6, "-1 no such thing, a number out of range, or not as told");
        Refused.by(-1, "no such drawer", x -> x.pull(4));
        Refused.by(-1, "a number out of range", x -> x.seeded(61, 0, 0));
        Refused.by(-1, "not as told", x -> x.next(0, 0, 0, 0));
        Check.term(4, "-2 no room");
        Refused.by(-2, "a seventh drawer", Refused::full, x -> x.comes(4));
        Check.term(6, "-3 it can't be as things stand");
        Refused.by(-3, "a stuck one", x -> x.pull(1));
        Check.term(9, "-4 none");
        Refused.by(-4, "no way", x -> x.fewest(0, 2));
        Refused.by(-4, "no way, so no first pull", x -> x.first(0, 2));
        Refused.by(-4, "no such place", Refused::joiners, x -> x.at(8));
        Refused.by(-4, "no way", () -> Check.walled("d20;"), x -> x.had(1));
        Refused.by(-4, "no kind", () -> Check.walled("d10;d20;"), x -> x.longest(0, 0, 1, 0));
        Refused.by(-4, "none that may not be", x -> x.judge(6));
        Check.term(31, "-11 to -15.");
        Refused.by(-11, "nothing held", x -> x.copy(5, 0, 0, 0, 1));
        Refused.by(-12, "another sort", x -> x.copy(2, 0, 0, 0, 1));
        Refused.by(-13, "no such place", x -> x.copy(1, 3, 0, 0, 1));
        Refused.by(-14, "a size below 0", x -> x.row(0, 0, -1));
        Refused.by(-15, "no failure", () -> {
            AboveIsShut x = Refused.furnished();
            x.keep(0, 1, 1, 9);
            return x;
        }, x -> x.toss(0));
        Check.term(29, "Their REFUSALS: -11 nothing is held where something is wanted");
        Refused.by(-11, "put", x -> x.put(5, 0, 0));
        Refused.by(-11, "cost", x -> x.cost(5));
        Check.term(29, "-12 it is of another kind");
        Refused.by(-12, "put", x -> x.put(4, 0, 0));
        Refused.by(-12, "cost", x -> x.cost(0));
    }

    private static void wrongAheadOfAll() {
        Check.term(13, "Answers of several refusals are the first one as they are told at the call");
        Refused.by(-1, "changes: -1, -11", x -> x.changes(5, 4));
        Refused.by(-1, "changes: -1, -12", x -> x.changes(0, -1));
        Refused.by(-1, "place: -1, -3", x -> x.place(16));
        Refused.by(-1, "place: -1, -3", x -> x.place(-1));
        Refused.by(-1, "at: -1, -3", x -> x.at(-1));
        Refused.by(-1, "seeded: -1, -3", Refused::withoutDrawers, x -> x.seeded(0, 0, 0));
        Refused.by(-1, "seeded: -1, -3", Refused::withoutDrawers, x -> x.seeded(61, 0, 1));
        Refused.by(-1, "seeded: -1, -3", Refused::withoutDrawers, x -> x.seeded(1, 0, 2));
        Refused.by(-1, "row: -1, -14", x -> x.row(8, 0, -1));
        Refused.by(-1, "row: -1, -14", x -> x.row(0, 3, -1));
        for (int shelf : new int[] {5, 4, 2, 3, 1}) {
            Refused.by(-1, "tried: -1, and what is on " + shelf, x -> x.tried(shelf, 4, 0));
            Refused.by(-1, "tried: -1, and what is on " + shelf, x -> x.tried(shelf, 0, 10));
            Refused.by(-1, "run: -1, and what is on " + shelf, x -> x.run(shelf, 2));
        }
        Refused.by(-1, "run: -1, -13", Refused::withoutDrawers, x -> x.run(0, -1));
        Refused.by(-1, "tried: -1, -13", Refused::withoutDrawers, x -> x.tried(0, 0, 0));
    }

    private static void shelvesAheadOfOthers() {
        Check.term(18, "Answers of several refusals are the first one as they are told at the call");
        Refused.by(-11, "comes: -11, -2", Refused::full, x -> x.comes(5));
        Refused.by(-12, "comes: -12, -2", Refused::full, x -> x.comes(0));
        Refused.by(-12, "tried: -12, -13", x -> x.tried(3, 0, 0));
        Refused.by(-12, "run: -12, -13", x -> x.run(3, 0));
        Refused.by(-11, "put: -11, -13", x -> x.put(5, -1, 0));
        Refused.by(-12, "put: -12, -13", x -> x.put(4, -1, 0));
        Refused.by(Refused.NO_SHELF, "element: no shelf, no place", x -> x.element(-1, -1));
        Refused.by(Refused.NO_SHELF, "element: no shelf, no row", x -> x.element(8, 0));
    }

    private static void copies() {
        Check.term(31, "Answers of several refusals are the first one as they are told at the call");
        Refused.by(-1, "-1, -11", x -> x.copy(8, 0, 5, 0, 1));
        Refused.by(-1, "-11, -1", x -> x.copy(5, 0, 8, 0, 1));
        Refused.by(-1, "-1, -12", x -> x.copy(-1, 0, 4, 0, 1));
        Refused.by(-1, "-12, -1", x -> x.copy(4, 0, -1, 0, 1));
        Refused.by(-1, "-1, -13", x -> x.copy(0, -1, 8, -1, -1));
        Refused.by(-11, "-11, -12", x -> x.copy(5, 0, 4, 0, 1));
        Refused.by(-11, "-12, -11", x -> x.copy(4, 0, 5, 0, 1));
        Refused.by(-11, "-11, -13", x -> x.copy(0, -1, 5, 0, -1));
        Refused.by(-11, "-11, -13", x -> x.copy(5, 0, 0, -1, -1));
        Refused.by(-12, "-12, -13", x -> x.copy(0, -1, 2, 0, 1));
        Refused.by(-12, "-12, -13", x -> x.copy(4, 0, 0, 9, -1));
    }
}
