/** Promise 1, and how long an object is used. */
final class NewObjectTest {
    private NewObjectTest() {
    }

    public static void main(String[] args) {
        all();
        Check.end();
    }

    static void all() {
        noDrawers();
        emptyShelves();
        fiveHundredAndTwelveCalls();
    }

    private static void noDrawers() {
        Check.promise(1, "No DRAWERS.");
        AboveIsShut x = new AboveIsShut();
        for (int what = 0; what < 4; what++) {
            Check.due("count(" + what + ")", x.count(what), 0);
            for (int drawer = 0; drawer < 6; drawer++) {
                Check.due("drawer(" + drawer + ", " + what + ")", x.drawer(drawer, what), -1);
            }
        }
        Check.due("standing(0)", x.standing(0), 0);
        Check.due("standing(1)", x.standing(1), 0);
        Check.due("restore()", x.restore(), -3);
        Check.due("far(0): there is the one standing of no drawers", x.far(0), 1);
        Check.due("had(0)", x.had(0), 0);
        Check.due("had(1)", x.had(1), -1);
        Check.due("freed(0)", x.freed(0), 0);
        Check.due("freed(1)", x.freed(1), -1);
        Check.due("image()", x.image(), 0);
        Check.due("restore()", x.restore(), 0);
    }

    private static void emptyShelves() {
        Check.term(1, "SHELVES 0 .. 7 each hold nothing (at first)");
        AboveIsShut x = new AboveIsShut();
        for (int d = 0; d < 8; d++) {
            Check.due("cost(" + d + ")", x.cost(d), -11);
            Check.due("put(" + d + ", 0, 0)", x.put(d, 0, 0), -11);
            Check.due("wall(" + d + ")", x.wall(d), -11);
            Check.due("comes(" + d + ")", x.comes(d), -11);
        }
    }

    private static void fiveHundredAndTwelveCalls() {
        Check.term(1, "An object is used for at most 512 calls after it has been made");
        AboveIsShut x = new AboveIsShut();
        x.keep(0, 1, 1, 0);
        for (int drawer = 0; drawer < 6; drawer++) {
            x.comes(0);
        }
        for (int call = 8; call < 512; call++) {
            Check.due("call " + call, x.pull(5), (call - 8) % 2 == 0 ? 32 : 0);
        }
        Check.due("call 512", x.freed(63), 0);
    }
}
