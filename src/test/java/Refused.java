import java.util.ArrayList;
import java.util.List;
import java.util.function.Supplier;
import java.util.function.ToLongFunction;

/**
 * Refused calls. Each is made on an object of its own, and all that can be asked of that one must then be as on
 * another one that was made likewise and not asked for what is refused.
 */
final class Refused {
    /** In place of an answer, what element throws. */
    static final long NO_SHELF = Long.MIN_VALUE;
    static final long NO_ELEMENT = Long.MIN_VALUE + 1;
    static final long ANOTHER_EXCEPTION = Long.MIN_VALUE + 2;

    private Refused() {
    }

    /** On an object as furnished() makes it. */
    static void by(long want, String told, ToLongFunction<AboveIsShut> call) {
        by(want, told, Refused::furnished, call);
    }

    static void by(long want, String told, Supplier<AboveIsShut> made, ToLongFunction<AboveIsShut> call) {
        AboveIsShut asked = made.get();
        Check.due(told, answer(asked, call), want);
        Check.holds("refused, " + told + " changes nothing", all(asked).equals(all(made.get())));
    }

    static long answer(AboveIsShut x, ToLongFunction<AboveIsShut> call) {
        try {
            return call.applyAsLong(x);
        } catch (RuntimeException e) {
            Class<?> thrown = e.getClass();
            if (thrown == IllegalArgumentException.class) {
                return NO_SHELF;
            }
            return thrown == IllegalStateException.class ? NO_ELEMENT : ANOTHER_EXCEPTION;
        }
    }

    /**
     * Four drawers, of which the highest alone may be pulled and the second alone is open, an image of fewer, and on
     * the shelves: 0 bytes, 1 bytes of an odd size, 2 shorts, 3 ints, 4 a drawer, 5 nothing, 6 no bytes, 7 a drawer.
     */
    static AboveIsShut furnished() {
        AboveIsShut x = Check.walled("d00;d25;o0;");
        x.image();
        Check.due("more drawers", Check.read(x, "d30;d49;s0;o1;"), 4);
        Check.bytes(x, 0, 0, 1);
        Check.bytes(x, 1, 0, 1, 2);
        Check.sorted(x, 2, 1, 0, 1);
        Check.sorted(x, 3, 2, 0, 1, 70000);
        x.keep(4, 1, 4, 2);
        Check.bytes(x, 6);
        x.keep(7, 1, 5, 9);
        return x;
    }

    /** The furnished one with as many drawers as there may be. */
    static AboveIsShut full() {
        AboveIsShut x = furnished();
        Check.due("a fifth drawer", x.comes(4), 4);
        Check.due("a sixth drawer", x.comes(7), 5);
        return x;
    }

    /** The furnished one with none but the joiner's drawers, three of them, and the second alone open. */
    static AboveIsShut joiners() {
        AboveIsShut x = Check.walled("d00;d05;d09;o1;");
        Check.bytes(x, 0, 0, 1);
        return x;
    }

    static AboveIsShut withoutDrawers() {
        AboveIsShut x = new AboveIsShut();
        Check.bytes(x, 0, 0, 1);
        Check.bytes(x, 6);
        x.keep(4, 1, 4, 2);
        return x;
    }

    /** All that can be asked, the image and the sorts of the rows last, because asking for them changes things. */
    private static List<Long> all(AboveIsShut x) {
        List<Long> all = new ArrayList<>();
        tellWall(x, all);
        for (int shelf = 0; shelf < 8; shelf++) {
            int d = shelf;
            all.add((long) x.cost(d));
            all.add((long) x.toss(d));
            long element = 0;
            for (int place = 0; place < 100 && element > ANOTHER_EXCEPTION; place++) {
                int i = place;
                element = answer(x, y -> y.element(d, i));
                all.add(element);
            }
        }
        all.add((long) x.restore());
        tellWall(x, all);
        for (int shelf = 0; shelf < 8; shelf++) {
            int d = shelf;
            all.add((long) x.put(d, 0, 0x7fedcba9));
            all.add(answer(x, y -> y.element(d, 0)));
        }
        return all;
    }

    private static void tellWall(AboveIsShut x, List<Long> all) {
        for (int what = 0; what < 4; what++) {
            all.add((long) x.count(what));
        }
        all.add((long) x.standing(0));
        all.add((long) x.standing(1));
        for (int drawer = 0; drawer < 6; drawer++) {
            for (int what = 0; what < 4; what++) {
                all.add((long) x.drawer(drawer, what));
            }
        }
    }
}
