/** Promises 24 to 26. */
final class ImageTest {
    private ImageTest() {
    }

    public static void main(String[] args) {
        all();
        Check.end();
    }

    static void all() {
        image();
        restore();
        restoreRefusals();
        count();
    }

    private static void image() {
        Check.promise(24, "THE IMAGE is taken: the STANDING.");
        AboveIsShut x = Check.walled("d10;d25;o1;");
        Check.due("image()", x.image(), 2);
        Check.due("pull(0)", x.pull(0), 3);
        Check.due("the image stays as it was", x.restore(), 2);
        Check.due("stand(1)", x.stand(1), 2);
        Check.due("image() once more", x.image(), 1);
        Check.due("stand(0)", x.stand(0), 1);
        Check.due("the later image", x.restore(), 1);
        Check.due("without drawers", new AboveIsShut().image(), 0);
        AboveIsShut six = Check.alike(6, 2, 0);
        six.stand(63);
        Check.due("of six, all open", six.image(), 63);
        Check.due("nothing else changes", six.standing(0), 63);
        Check.due("nor how many there are", six.count(3), 6);
    }

    private static void restore() {
        Check.promise(25, "THE IMAGE is RESTORED: the STANDING.");
        AboveIsShut x = Check.walled("d10;d25;o1;");
        x.image();
        Check.due("pull(0)", x.pull(0), 3);
        Check.due("restore()", x.restore(), 2);
        Check.due("standing(0)", x.standing(0), 2);

        Check.term(25, "THE IMAGE: all that there is, but SHELVES (and THE IMAGE); RESTORED all is as it was then.");
        x.keep(0, 1, 7, 1);
        Check.due("changes(0, 1)", x.changes(0, 1), 2);
        Check.due("comes(0)", x.comes(0), 2);
        Check.due("stand(7)", x.stand(7), 2);
        Check.due("restore()", x.restore(), 2);
        Check.due("drawers", x.count(0), 2);
        Check.due("kind", x.drawer(1, 0), 2);
        Check.due("figure", x.drawer(1, 1), 5);
        Check.due("no third one", x.drawer(2, 0), -1);
        Check.due("pull(0)", x.pull(0), 3);
        Check.due("restore() once more: the image is there yet", x.restore(), 2);
        AboveIsShut none = new AboveIsShut();
        Check.due("image() without drawers", none.image(), 0);
        Check.due("a text", Check.read(none, "d10;o0;"), 2);
        Check.due("restore()", none.restore(), 0);
        Check.due("no drawers", none.count(0), 0);
        Check.due("the place of the joiner's way is asked of none", none.place(0), 0);
        AboveIsShut six = Check.walled("d00;d11;d22;d33;d44;d55;o5;");
        Check.due("image() of six", six.image(), 32);
        six.keep(0, 1, 7, 7);
        for (int drawer = 0; drawer < 6; drawer++) {
            Check.due("changes", six.changes(0, drawer), drawer);
        }
        six.stand(31);
        Check.due("restore()", six.restore(), 32);
        for (int drawer = 0; drawer < 6; drawer++) {
            Check.due("KIND", six.drawer(drawer, 0), drawer);
            Check.due("FIGURE", six.drawer(drawer, 1), drawer);
        }

        Check.term(25, "when THE IMAGE is RESTORED, SHELVES stay as they are");
        AboveIsShut y = Check.walled("d10;");
        Check.bytes(y, 0, 4);
        y.keep(1, 1, 2, 3);
        Check.due("image()", y.image(), 0);
        y.put(0, 0, 5);
        y.keep(1, 0, 0, 0);
        y.keep(2, 1, 0, 0);
        y.row(7, 1, 2);
        Check.due("restore()", y.restore(), 0);
        Check.due("the element stays", y.element(0, 0), 5);
        Check.due("the shelf stays empty", y.cost(1), -11);
        Check.due("the drawer stays", y.cost(2), 4);
        Check.due("the row stays", y.element(7, 1), 0);
    }

    private static void restoreRefusals() {
        Check.promise(25, "-3: there is none.");
        Refused.by(-3, "restore() without drawers", Refused::withoutDrawers, y -> y.restore());
        Refused.by(-3, "restore()", Refused::joiners, y -> y.restore());
        AboveIsShut x = new AboveIsShut();
        Check.due("restore()", x.restore(), -3);
        Check.due("restore() once more", x.restore(), -3);
        x.image();
        Check.due("restore() of an image", x.restore(), 0);
    }

    private static void count() {
        Check.promise(26, "0 DRAWERS, 1 OPEN ones, 2 those that MAY be pulled, 3 those of KIND 2; -1 for others.");
        AboveIsShut x = Check.walled("d20;d10;d29;d00;d20;o1;o2;o4;");
        Check.due("count(0)", x.count(0), 5);
        Check.due("count(1)", x.count(1), 3);
        Check.due("count(2)", x.count(2), 1);
        Check.due("count(3)", x.count(3), 3);
        AboveIsShut one = Check.walled("d30;d70;d60;");
        Check.due("count(3) of others", one.count(3), 0);
        Check.due("count(2) of others", one.count(2), 3);
        for (int many = 0; many <= 6; many++) {
            for (int kind = 0; kind < 8; kind++) {
                AboveIsShut y = Check.alike(many, kind, 2);
                Check.due("drawers", y.count(0), many);
                Check.due("none is open", y.count(1), 0);
                Check.due("of KIND 2", y.count(3), kind == 2 ? many : 0);
                y.stand((1 << many) - 1);
                Check.due("all are open", y.count(1), many);
            }
            Check.due("all may be pulled", Check.alike(many, 1, 0).count(2), many);
            Check.due("none may be pulled", Check.alike(many, 2, 0).count(2), 0);
        }
        for (int what : Check.outside(0, 3)) {
            Refused.by(-1, "count(" + what + ")", y -> y.count(what));
            Refused.by(-1, "count(" + what + ") without drawers", Refused::withoutDrawers, y -> y.count(what));
        }
    }
}
