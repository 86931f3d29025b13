/** All promises: runs of calls, by seeds that are always the same, on the class and on the model beside it. */
final class ModelTest {
    private static final int RUNS = 4000;
    /** So many calls of an object are promised. */
    private static final int CALLS = 512;
    /** No step below takes more of them, but for the last one, which looks at everything. */
    private static final int CALLS_OF_A_STEP = 30;
    private static final int CALLS_OF_THE_LAST = 62;
    private static final int CALL_KINDS = 33;
    private static final int[] WILD = {
        Integer.MIN_VALUE, Integer.MIN_VALUE + 1, -65537, -256, -2, -1, 0, 1, 6, 7, 8, 9, 10, 63, 64, 99, 100, 101, 255,
        256, 65536, Integer.MAX_VALUE - 1, Integer.MAX_VALUE};

    private long seed;
    private AboveIsShut x;
    private Model model;
    private int calls = 0;

    private ModelTest(long seed) {
        this.seed = seed;
    }

    public static void main(String[] args) {
        for (int run = 0; run < RUNS; run++) {
            new ModelTest(run * 7919L + 17).run(run);
        }
        Check.end();
    }

    private void run(int run) {
        x = new AboveIsShut();
        model = new Model();
        // Some runs keep to few kinds, so that long ways and the joiner's way come up often enough.
        int kinds = run % 3 == 0 ? 1 : run % 3 == 1 ? 8 : 4;
        while (calls + CALLS_OF_A_STEP + CALLS_OF_THE_LAST <= CALLS) {
            String told = "run " + run + ", call " + calls + ": ";
            if (below(12) == 0) {
                text(told, kinds);
            } else {
                answer(told, below(CALL_KINDS), kinds);
            }
        }
        everything("run " + run + ", at its end: ");
        Check.holds("no more calls than are promised", calls <= CALLS);
    }

    private int below(int n) {
        seed = seed * 6364136223846793005L + 1442695040888963407L;
        return (int) ((seed >>> 33) % n);
    }

    /** Mostly a number from 0 on below n, now and then one beside that or far from it. */
    private int about(int n) {
        int how = below(24);
        if (how == 0) {
            return WILD[below(WILD.length)];
        }
        return how == 1 ? below(n + 2) - 1 : below(n);
    }

    private int drawerNumber() {
        return about(Math.max(1, model.count(0)));
    }

    private int bits() {
        return about(1 << model.count(0));
    }

    private void text(String told, int kinds) {
        StringBuilder text = new StringBuilder();
        int statements = 1 + below(5);
        for (int i = 0; i < statements; i++) {
            char letter = "ddospp".charAt(below(6));
            text.append(letter).append((char) ('0' + below(letter == 'd' ? kinds : 6)));
            if (letter == 'd') {
                text.append((char) ('0' + below(10)));
            }
            text.append(';');
        }
        if (below(8) == 0) {
            text.setCharAt(below(text.length()), (char) (below(3) == 0 ? below(256) : "dosp;0789"
                .charAt(below(9))));
        }
        if (below(10) == 0) {
            text.setLength(below(text.length()));
        }
        int d = below(8);
        both(told + "row", x.row(d, 0, text.length()), model.row(d, 0, text.length()));
        for (int i = 0; i < text.length(); i++) {
            both(told + "put", x.put(d, i, text.charAt(i)), model.put(d, i, text.charAt(i)));
        }
        both(told + "wall of " + text, x.wall(d), model.wall(d));
    }

    private void both(String told, long got, long want) {
        calls++;
        Check.due(told, got, want);
    }

    private long element(int d, int i) {
        try {
            return x.element(d, i);
        } catch (IllegalArgumentException e) {
            return Model.NO_SHELF;
        } catch (IllegalStateException e) {
            return Model.NO_ELEMENT;
        }
    }

    /** A row that tells drawers, or trials of them, so that those that read it have something to read. */
    private void tell(String told, int d) {
        int size = below(14);
        int sort = below(6) == 0 ? 1 + below(2) : 0;
        boolean trials = below(2) == 0;
        both(told + "row", x.row(d, sort, size), model.row(d, sort, size));
        for (int i = 0; i < size; i++) {
            int v = trials && i % 2 == 1 ? below(2) : below(60) == 0 ? about(8) : below(Math.max(1, model.count(0)));
            both(told + "put", x.put(d, i, v), model.put(d, i, v));
        }
    }

    private void answer(String told, int which, int kinds) {
        int d = about(8);
        int e = about(8);
        int drawer = drawerNumber();
        int other = drawerNumber();
        int figure = about(10);
        int what = about(2);
        int a = bits();
        int b = bits();
        String call = told + which + " (" + d + ", " + drawer + ", " + what + ")";
        switch (which) {
            case 0: both(call, x.wall(d), model.wall(d)); break;
            case 1: what = about(4); both(call, x.drawer(drawer, what), model.drawer(drawer, what)); break;
            case 2: both(call, x.comes(d), model.comes(d)); break;
            case 3: both(call, x.changes(d, drawer), model.changes(d, drawer)); break;
            case 4: both(call, x.pull(drawer), model.pull(drawer)); break;
            case 5: both(call, x.standing(what), model.standing(what)); break;
            case 6: both(call, x.stand(a), model.stand(a)); break;
            case 7: both(call, x.fewest(a, b), model.fewest(a, b)); break;
            case 8: both(call, x.first(a, b), model.first(a, b)); break;
            case 9: what = about(3); both(call, x.far(what), model.far(what)); break;
            case 10: both(call, x.never(), model.never()); break;
            case 11: both(call, x.place(a), model.place(a)); break;
            case 12: a = about(66); both(call, x.at(a), model.at(a)); break;
            case 13: both(call, x.had(a), model.had(a)); break;
            case 14:
                // The model is slow at this one.
                if (below(4) == 0) {
                    both(call, x.freed(a), model.freed(a));
                }
                break;
            case 15:
                both(call, x.longest(drawer, figure, other, what), model.longest(drawer, figure, other, what));
                break;
            case 16: both(call, x.tried(d, drawer, figure), model.tried(d, drawer, figure)); break;
            case 17:
                a = about(256);
                both(call, x.next(drawer, figure, a, what), model.next(drawer, figure, a, what));
                break;
            case 18: a = about(6); both(call, x.game(drawer, a), model.game(drawer, a)); break;
            case 19: both(call, x.run(d, what), model.run(d, what)); break;
            case 20: a = about(61); b = (int) seed; both(call, x.seeded(a, b, what), model.seeded(a, b, what)); break;
            case 21: both(call, x.judge(d), model.judge(d)); break;
            case 22: both(call, x.image(), model.image()); break;
            case 23: both(call, x.restore(), model.restore()); break;
            case 24: a = about(4); both(call, x.count(a), model.count(a)); break;
            case 25:
                a = below(30) == 0 ? about(8) : below(kinds);
                what = below(3) == 0 ? what : 1;
                both(call, x.keep(d, what, a, figure), model.keep(d, what, a, figure));
                break;
            case 26: a = about(3); b = about(101); both(call, x.row(d, a, b), model.row(d, a, b)); break;
            case 27: a = about(12); b = about(300) - 150; both(call, x.put(d, a, b), model.put(d, a, b)); break;
            case 28: a = about(12); both(call, element(d, a), model.element(d, a)); break;
            case 29:
                a = about(12);
                b = about(12);
                int n = about(12);
                both(call, x.copy(d, a, e, b, n), model.copy(d, a, e, b, n));
                break;
            case 30: both(call, x.cost(d), model.cost(d)); break;
            case 31: both(call, x.toss(d), model.toss(d)); break;
            default: tell(told, below(8)); break;
        }
    }

    private void everything(String told) {
        for (int what = 0; what < 4; what++) {
            both(told + "count(" + what + ")", x.count(what), model.count(what));
            for (int drawer = 0; drawer < 6; drawer++) {
                both(told + "drawer(" + drawer + ", " + what + ")", x.drawer(drawer, what), model.drawer(drawer, what));
            }
        }
        both(told + "standing(0)", x.standing(0), model.standing(0));
        both(told + "standing(1)", x.standing(1), model.standing(1));
        for (int d = 0; d < 8; d++) {
            both(told + "cost(" + d + ")", x.cost(d), model.cost(d));
            for (int i = 0; i < 3; i++) {
                both(told + "element(" + d + ", " + i + ")", element(d, i), model.element(d, i));
            }
        }
    }
}
