/** Promise 1. */
final class NewObjectTest {
    private NewObjectTest() {
    }

    public static void main(String[] args) {
        AboveIsShut x = new AboveIsShut();
        Check.due("count(0)", x.count(0), 0);
        Check.due("count(1)", x.count(1), 0);
        Check.due("count(2)", x.count(2), 0);
        Check.due("count(3)", x.count(3), 0);
        Check.due("standing(0)", x.standing(0), 0);
        Check.due("standing(1)", x.standing(1), 0);
        Check.due("drawer(0, 0)", x.drawer(0, 0), -1);
        Check.due("restore()", x.restore(), -3);
        for (int d = 0; d < 8; d++) {
            Check.due("cost of an empty shelf", x.cost(d), -11);
            Check.due("put on an empty shelf", x.put(d, 0, 0), -11);
        }
        Check.end();
    }
}
