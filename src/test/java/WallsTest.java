/** Promises 2 to 8. */
final class WallsTest {
    private WallsTest() {
    }

    public static void main(String[] args) {
        readsTexts();
        tellsFaults();
        addsToWhatStands();
        refusesShelves();
        tellsDrawers();
        lawOfTheJoiner();
        lawsOfTheOthers();
        comes();
        changes();
        pulls();
        standings();
        Check.end();
    }

    private static void readsTexts() {
        AboveIsShut x = new AboveIsShut();
        Check.due("a text of five statements", Check.read(x, "d00;d19;o1;p0;s1;"), 5);
        Check.due("drawers", x.count(0), 2);
        Check.due("standing", x.standing(0), 1);
        Check.due("kind", x.drawer(1, 0), 1);
        Check.due("figure", x.drawer(1, 1), 9);
        Check.due("opening an open one", Check.read(x, "o0;o0;"), 2);
        Check.due("it stays open", x.standing(0), 1);
        Check.due("shutting a shut one", Check.read(x, "s1;s1;s0;"), 3);
        Check.due("both are shut", x.standing(0), 0);
        Check.text(x, 0, "o1;");
        Check.due("the text", x.wall(0), 1);
        Check.due("the text stays there", x.element(0, 0), 'o');
        Check.due("so it is read once more", x.wall(0), 1);
        AboveIsShut stuck = Check.walled("d20;o0;");
        Check.due("o opens what may not be pulled", stuck.standing(0), 1);
        StringBuilder longest = new StringBuilder("d10;");
        for (int i = 0; i < 32; i++) {
            longest.append("p0;");
        }
        Check.due("100 bytes", Check.read(new AboveIsShut(), longest.toString()), 33);
    }

    private static void tellsFaults() {
        fault("", -1000);
        fault("x", -1000);
        fault(";", -1000);
        fault("0", -1000);
        fault("d", -1001);
        fault("dx", -1001);
        fault("d0", -1002);
        fault("d0;", -1002);
        fault("d00", -1003);
        fault("d000;", -1003);
        fault("d00;x", -1004);
        fault("d00;o", -1005);
        fault("d00;o;", -1005);
        fault("d00;o0", -1006);
        fault("d00;o00;", -1006);
        fault("d00;s0:", -1006);
        fault("d00;p0;;", -1007);
        fault("D00;", -1000);
        fault("d0/;", -1002);
        fault("d:0;", -1001);
        fault("d80;", -2000);
        fault("d90;", -2000);
        fault("d00;d90;", -2004);
        fault("o0;", -2000);
        fault("s0;", -2000);
        fault("p0;", -2000);
        fault("d00;o1;", -2004);
        fault("d00;s9;", -2004);
        fault("d00;p6;", -2004);
        fault("d20;p0;", -2004);
        fault("d00;d00;o0;p1;", -2011);
        fault("d10;d10;d10;d10;d10;d10;d10;", -2024);
        fault("d10;d10;d10;d10;d10;d10;o6;", -2024);
        fault("o0;d90;", -2000);
        fault("o0;x", -1003);
        fault("d80;d00", -1007);
        AboveIsShut x = new AboveIsShut();
        Check.bytes(x, 0, 'd', '0', '0', ';', -1);
        Check.due("a byte below 0", x.wall(0), -1004);
        int[] values = new int[100];
        for (int i = 0; i < 100; i++) {
            values[i] = i % 4 == 0 ? 'd' : i % 4 == 3 ? ';' : '0';
        }
        values[96] = 'o';
        values[98] = ';';
        values[99] = 's';
        Check.bytes(x, 0, values);
        Check.due("100 bytes that end too early", x.wall(0), -1100);
    }

    private static void fault(String text, int want) {
        AboveIsShut x = new AboveIsShut();
        Check.due("the text " + text, Check.read(x, text), want);
        Check.due("drawers behind the text " + text, x.count(0), 0);
        AboveIsShut later = Check.walled("d10;");
        Check.due("pull", later.pull(0), 1);
        if (want > -2000) {
            Check.due("the text " + text + " on a wall", Check.read(later, text), want);
            Check.due("drawers", later.count(0), 1);
            Check.due("standing", later.standing(0), 1);
        }
    }

    private static void addsToWhatStands() {
        AboveIsShut x = Check.walled("d10;d20;o1;");
        Check.due("more drawers", Check.read(x, "d36;d47;p0;"), 3);
        Check.due("drawers", x.count(0), 4);
        Check.due("standing", x.standing(0), 3);
        Check.due("the third", x.drawer(2, 0), 3);
        Check.due("the fourth's figure", x.drawer(3, 1), 7);
        Check.due("no room for three", Check.read(x, "s0;d10;d10;d10;"), -2011);
        Check.due("nothing came", x.count(0), 4);
        Check.due("nothing was shut", x.standing(0), 3);
        Check.due("room for two", Check.read(x, "d10;d10;o5;"), 3);
        Check.due("all six", x.count(0), 6);
        Check.due("the sixth is open", x.standing(0), 35);
    }

    private static void refusesShelves() {
        AboveIsShut x = new AboveIsShut();
        Check.due("wall(-1)", x.wall(-1), -1);
        Check.due("wall(8)", x.wall(8), -1);
        Check.due("wall(0), nothing held", x.wall(0), -11);
        x.keep(0, 1, 0, 0);
        Check.due("wall(0), a drawer", x.wall(0), -12);
        x.row(0, 1, 4);
        Check.due("wall(0), shorts", x.wall(0), -12);
        x.row(0, 2, 4);
        Check.due("wall(0), ints", x.wall(0), -12);
        Check.due("comes(-1)", x.comes(-1), -1);
        Check.due("comes(8)", x.comes(8), -1);
        Check.due("comes(1), nothing held", x.comes(1), -11);
        Check.due("comes(0), a row", x.comes(0), -12);
        Check.due("drawers", x.count(0), 0);
    }

    private static void tellsDrawers() {
        AboveIsShut x = Check.walled("d03;d25;o1;");
        Check.due("drawer(0, 0)", x.drawer(0, 0), 0);
        Check.due("drawer(0, 1)", x.drawer(0, 1), 3);
        Check.due("drawer(0, 2)", x.drawer(0, 2), 0);
        Check.due("drawer(0, 3)", x.drawer(0, 3), 1);
        Check.due("drawer(1, 0)", x.drawer(1, 0), 2);
        Check.due("drawer(1, 1)", x.drawer(1, 1), 5);
        Check.due("drawer(1, 2)", x.drawer(1, 2), 1);
        Check.due("drawer(1, 3)", x.drawer(1, 3), 0);
        Check.due("drawer(2, 0)", x.drawer(2, 0), -1);
        Check.due("drawer(-1, 0)", x.drawer(-1, 0), -1);
        Check.due("drawer(0, 4)", x.drawer(0, 4), -1);
        Check.due("drawer(0, -1)", x.drawer(0, -1), -1);
    }

    private static void lawOfTheJoiner() {
        AboveIsShut x = Check.walled("d00;d00;d00;d00;");
        may(x, 0b0000, 0b0011);
        may(x, 0b0001, 0b0101);
        may(x, 0b0010, 0b0011);
        may(x, 0b0011, 0b1001);
        may(x, 0b0111, 0b0001);
        may(x, 0b0101, 0b0101);
        may(x, 0b0110, 0b0011);
        may(x, 0b1111, 0b0001);
        may(x, 0b1011, 0b1001);
    }

    private static void lawsOfTheOthers() {
        AboveIsShut free = Check.walled("d10;d10;d10;");
        AboveIsShut stuck = Check.walled("d20;d20;d20;");
        for (int standing = 0; standing < 8; standing++) {
            may(free, standing, 7);
            may(stuck, standing, 0);
        }
        AboveIsShut under = Check.walled("d30;d30;d30;");
        may(under, 0b000, 0b111);
        may(under, 0b001, 0b101);
        may(under, 0b010, 0b011);
        may(under, 0b100, 0b111);
        may(under, 0b011, 0b001);
        AboveIsShut over = Check.walled("d42;d40;d42;");
        may(over, 0b000, 0b011);
        may(over, 0b001, 0b101);
        may(over, 0b100, 0b010);
        may(over, 0b101, 0b000);
        may(over, 0b011, 0b001);
        AboveIsShut overNone = Check.walled("d43;d49;d46;");
        may(overNone, 0b000, 0b011);
        may(overNone, 0b001, 0b101);
        may(overNone, 0b111, 0b001);
        AboveIsShut loose = Check.walled("d59;d52;d51;");
        may(loose, 0b000, 0b111);
        may(loose, 0b001, 0b101);
        may(loose, 0b010, 0b111);
        may(loose, 0b110, 0b111);
        may(loose, 0b011, 0b111);
        AboveIsShut looseNever = Check.walled("d59;d54;d50;");
        may(looseNever, 0b111, 0b101);
        may(looseNever, 0b000, 0b111);
        may(looseNever, 0b010, 0b111);
        may(looseNever, 0b011, 0b101);
        AboveIsShut odd = Check.walled("d60;d61;d69;");
        may(odd, 0b000, 0b001);
        may(odd, 0b001, 0b111);
        may(odd, 0b010, 0b100);
        may(odd, 0b100, 0b010);
        may(odd, 0b011, 0b010);
        may(odd, 0b111, 0b001);
        AboveIsShut latch = Check.walled("d70;d70;d70;");
        may(latch, 0b000, 0b011);
        may(latch, 0b001, 0b101);
        may(latch, 0b111, 0b111);
        may(latch, 0b110, 0b111);
        may(latch, 0b011, 0b011);
        may(latch, 0b100, 0b111);
    }

    private static void may(AboveIsShut x, int standing, int want) {
        Check.holds("stand", x.stand(standing) >= 0);
        Check.due("those that may be pulled at " + standing, x.standing(1), want);
        Check.due("how many may be pulled at " + standing, x.count(2), Integer.bitCount(want));
        for (int drawer = 0; drawer < x.count(0); drawer++) {
            Check.due("drawer(" + drawer + ", 3) at " + standing, x.drawer(drawer, 3), want >> drawer & 1);
        }
    }

    private static void comes() {
        AboveIsShut x = new AboveIsShut();
        x.keep(2, 1, 4, 7);
        for (int number = 0; number < 6; number++) {
            Check.due("comes(2)", x.comes(2), number);
            Check.due("shut", x.drawer(number, 2), 0);
        }
        Check.due("comes(2) without room", x.comes(2), -2);
        Check.due("comes(3), nothing held, without room", x.comes(3), -11);
        Check.due("drawers", x.count(0), 6);
        Check.due("kind", x.drawer(5, 0), 4);
        Check.due("figure", x.drawer(5, 1), 7);
        Check.due("it stays on the shelf", x.cost(2), 32);
        x.keep(2, 1, 1, 0);
        Check.due("another one on the shelf changes no wall", x.drawer(0, 0), 4);
    }

    private static void changes() {
        AboveIsShut x = Check.walled("d25;d10;o0;");
        x.keep(0, 1, 7, 3);
        Check.due("changes(0, 0)", x.changes(0, 0), 2);
        Check.due("kind", x.drawer(0, 0), 7);
        Check.due("figure", x.drawer(0, 1), 3);
        Check.due("open as before", x.standing(0), 1);
        Check.due("changes(0, 1)", x.changes(0, 1), 1);
        Check.due("shut as before", x.standing(0), 1);
        Check.due("it stays on the shelf", x.changes(0, 1), 7);
        Check.due("changes(0, 2)", x.changes(0, 2), -1);
        Check.due("changes(0, -1)", x.changes(0, -1), -1);
        Check.due("changes(8, 0)", x.changes(8, 0), -1);
        Check.due("changes(-1, 0)", x.changes(-1, 0), -1);
        Check.due("changes(1, 2), nothing held, no drawer", x.changes(1, 2), -1);
        Check.due("changes(1, 0)", x.changes(1, 0), -11);
        x.row(1, 0, 3);
        Check.due("changes(1, 0), a row", x.changes(1, 0), -12);
        int before = 7;
        for (int kind = 0; kind < 8; kind++) {
            x.keep(2, 1, kind, 9 - kind);
            Check.due("KIND before " + kind, x.changes(2, 1), before);
            Check.due("KIND " + kind, x.drawer(1, 0), kind);
            Check.due("FIGURE of KIND " + kind, x.drawer(1, 1), 9 - kind);
            before = kind;
        }
    }

    private static void pulls() {
        AboveIsShut x = Check.walled("d00;d00;d00;");
        Check.due("pull(2)", x.pull(2), -3);
        Check.due("pull(1)", x.pull(1), 2);
        Check.due("pull(0)", x.pull(0), 3);
        Check.due("pull(1)", x.pull(1), -3);
        Check.due("standing", x.standing(0), 3);
        Check.due("pull(0)", x.pull(0), 2);
        Check.due("pull(1)", x.pull(1), 0);
        Check.due("pull(3)", x.pull(3), -1);
        Check.due("pull(-1)", x.pull(-1), -1);
        Check.due("pull(0) without drawers", new AboveIsShut().pull(0), -1);
    }

    private static void standings() {
        AboveIsShut x = Check.walled("d00;d20;");
        Check.due("stand(3)", x.stand(3), 0);
        Check.due("stand(2)", x.stand(2), 3);
        Check.due("standing(0)", x.standing(0), 2);
        Check.due("stand(4)", x.stand(4), -1);
        Check.due("stand(-1)", x.stand(-1), -1);
        Check.due("stand(min)", x.stand(Integer.MIN_VALUE), -1);
        Check.due("standing(0)", x.standing(0), 2);
        Check.due("standing(2)", x.standing(2), -1);
        Check.due("standing(-1)", x.standing(-1), -1);
        Check.due("stand(0) without drawers", new AboveIsShut().stand(0), 0);
        Check.due("stand(1) without drawers", new AboveIsShut().stand(1), -1);
    }
}
