/** Promises 24 to 26. */
final class ImageTest {
    private ImageTest() {
    }

    public static void main(String[] args) {
        restores();
        leavesShelves();
        ofNoDrawers();
        counts();
        Check.end();
    }

    private static void restores() {
        AboveIsShut x = Check.walled("d10;d25;o1;");
        Check.due("no image", x.restore(), -3);
        Check.due("standing", x.standing(0), 2);
        Check.due("image()", x.image(), 2);
        Check.due("pull(0)", x.pull(0), 3);
        x.keep(0, 1, 7, 1);
        Check.due("changes(0, 1)", x.changes(0, 1), 2);
        Check.due("comes(0)", x.comes(0), 2);
        Check.due("restore()", x.restore(), 2);
        Check.due("drawers", x.count(0), 2);
        Check.due("kind", x.drawer(1, 0), 2);
        Check.due("figure", x.drawer(1, 1), 5);
        Check.due("no third one", x.drawer(2, 0), -1);
        Check.due("pull(0)", x.pull(0), 3);
        Check.due("restore() once more", x.restore(), 2);
        Check.due("stand(1)", x.stand(1), 2);
        Check.due("image() once more", x.image(), 1);
        Check.due("stand(0)", x.stand(0), 1);
        Check.due("the later image", x.restore(), 1);
    }

    private static void leavesShelves() {
        AboveIsShut x = Check.walled("d10;");
        Check.bytes(x, 0, 4);
        x.keep(1, 1, 2, 3);
        Check.due("image()", x.image(), 0);
        x.put(0, 0, 5);
        x.keep(1, 0, 0, 0);
        x.keep(2, 1, 0, 0);
        Check.due("restore()", x.restore(), 0);
        Check.due("the element stays", x.element(0, 0), 5);
        Check.due("the shelf stays empty", x.cost(1), -11);
        Check.due("the drawer stays", x.cost(2), 4);
    }

    private static void ofNoDrawers() {
        AboveIsShut x = new AboveIsShut();
        Check.due("image()", x.image(), 0);
        Check.due("a text", Check.read(x, "d10;o0;"), 2);
        Check.due("restore()", x.restore(), 0);
        Check.due("no drawers", x.count(0), 0);
    }

    private static void counts() {
        AboveIsShut x = Check.walled("d20;d10;d29;d00;d20;o1;o2;o4;");
        Check.due("count(0)", x.count(0), 5);
        Check.due("count(1)", x.count(1), 3);
        Check.due("count(2)", x.count(2), 1);
        Check.due("count(3)", x.count(3), 3);
        Check.due("count(4)", x.count(4), -1);
        Check.due("count(-1)", x.count(-1), -1);
        AboveIsShut one = Check.walled("d30;d70;d60;");
        Check.due("count(3) of others", one.count(3), 0);
        Check.due("count(2) of others", one.count(2), 3);
    }
}
