/** Promises 2 to 8, and the laws of each KIND. */
final class WallsTest {
    private static final String DIGITS = "0123456789";

    private WallsTest() {
    }

    public static void main(String[] args) {
        all();
        Check.end();
    }

    static void all() {
        wall();
        wallFaults();
        wallRefusals();
        drawer();
        laws();
        lawsEverywhere();
        comes();
        changes();
        pull();
        standing();
        stand();
    }

    private static void wall() {
        Check.promise(2, "The text in SHELF d: how many STATEMENTS; the FAULT.");
        AboveIsShut x = new AboveIsShut();
        Check.due("a text of five statements", Check.read(x, "d00;d19;o1;p0;s1;"), 5);
        Check.due("drawers", x.count(0), 2);
        Check.due("standing", x.standing(0), 1);
        Check.due("one statement", Check.read(x, "p0;"), 1);
        String hundred = "d10;" + "p0;".repeat(32);
        Check.due("100 bytes, as many statements as there may be", Check.read(new AboveIsShut(), hundred), 33);
        Check.due("a fault of kind 1", Check.read(x, "p"), -1001);
        Check.due("a fault of kind 2", Check.read(x, "p2;"), -2000);
        for (int d = 0; d < 8; d++) {
            Check.text(x, d, "s0;s1;");
            Check.due("wall(" + d + ")", x.wall(d), 2);
        }

        Check.term(2, "A WALL is read from bytes: STATEMENTS, each with ; behind");
        Check.due("without ; behind", Check.read(new AboveIsShut(), "d00"), -1003);
        Check.due("with ; behind", Check.read(new AboveIsShut(), "d00;"), 1);
        Check.due("with two behind", Check.read(new AboveIsShut(), "d00;;"), -1004);

        Check.term(2, "d, KIND, FIGURE (digits): a DRAWER more");
        for (int kind = 0; kind < 8; kind++) {
            for (int figure = 0; figure < 10; figure++) {
                AboveIsShut one = Check.alike(1, kind, figure);
                Check.due("drawers", one.count(0), 1);
                Check.due("KIND", one.drawer(0, 0), kind);
                Check.due("FIGURE", one.drawer(0, 1), figure);
                Check.due("shut", one.drawer(0, 2), 0);
            }
        }
        AboveIsShut more = Check.walled("d10;d20;o1;");
        Check.due("more drawers", Check.read(more, "d36;d47;p0;"), 3);
        Check.due("drawers", more.count(0), 4);
        Check.due("standing", more.standing(0), 3);
        Check.due("the third", more.drawer(2, 0), 3);
        Check.due("the fourth's figure", more.drawer(3, 1), 7);

        Check.term(2, "o, a DRAWER (a digit): it is OPEN");
        AboveIsShut opened = Check.walled("d20;d00;");
        Check.due("one that may not be pulled", Check.read(opened, "o0;"), 1);
        Check.due("is open", opened.standing(0), 1);
        Check.due("one that is open", Check.read(opened, "o0;"), 1);
        Check.due("stays open", opened.standing(0), 1);
        Check.due("by two statements", Check.read(opened, "o0;o0;"), 2);
        Check.due("stays open", opened.standing(0), 1);

        Check.term(2, "s, a DRAWER: it is shut");
        Check.due("one that may not be pulled", Check.read(opened, "o1;s0;"), 2);
        Check.due("is shut", opened.standing(0), 2);
        Check.due("one that is shut", Check.read(opened, "s0;"), 1);
        Check.due("stays shut", opened.standing(0), 2);
        Check.due("by two statements", Check.read(opened, "s0;s0;"), 2);
        Check.due("stays shut", opened.standing(0), 2);

        Check.term(2, "p, a DRAWER: it is pulled");
        AboveIsShut pulled = Check.walled("d00;d00;");
        Check.due("the second, then the highest", Check.read(pulled, "p1;p0;"), 2);
        Check.due("standing", pulled.standing(0), 3);
        Check.due("the highest once more", Check.read(pulled, "p0;"), 1);
        Check.due("standing", pulled.standing(0), 2);

        Check.term(2, "Without FAULT all of it comes; with one nothing.");
        AboveIsShut full = Check.walled("d10;d20;o1;d36;d47;");
        Check.due("no room for three", Check.read(full, "s1;d10;d10;d10;"), -2011);
        Check.due("nothing came", full.count(0), 4);
        Check.due("nothing was shut", full.standing(0), 2);
        Check.due("room for two", Check.read(full, "d10;d10;o5;"), 3);
        Check.due("both came", full.count(0), 6);
        Check.due("the sixth is open", full.standing(0), 34);

        Check.term(2, "The ROW that is read, and what is taken from a SHELF, stay there");
        Check.text(x, 0, "o1;");
        Check.due("the text", x.wall(0), 1);
        Check.elements(x, 0, 'o', '1', ';');
        Check.due("once more", x.wall(0), 1);
    }

    private static void wallFaults() {
        Check.term(2, "At least one STATEMENT.");
        fault("", -1000);
        fault(";", -1000);

        Check.term(2, "FAULT: kind 1 the place of the first byte with which no WALL can go on");
        goesOn("", "dosp");
        goesOn("d", DIGITS);
        goesOn("d0", DIGITS);
        goesOn("d00", ";");
        for (String letter : new String[] {"o", "s", "p"}) {
            goesOn(letter, DIGITS);
            goesOn(letter + "0", ";");
            goesOn("d00;" + letter, DIGITS);
            goesOn("d00;" + letter + "0", ";");
        }
        goesOn("d00;", "dosp");
        goesOn("d00;o0;", "dosp");
        fault("x", -1000);
        fault("D00;", -1000);
        fault("d:0;", -1001);
        fault("d0/;", -1002);
        fault("d000;", -1003);
        fault("d00;s0:", -1006);
        fault("d00;p0;;", -1007);
        String ninetySeven = "d10;" + "p0;".repeat(31);
        fault(ninetySeven + "p0:", -1099);
        fault(ninetySeven + "x0;", -1097);

        Check.term(2, "(the size, if it ends too early)");
        fault("d", -1001);
        fault("d0", -1002);
        fault("d00", -1003);
        fault("o", -1001);
        fault("o0", -1002);
        fault("d00;o", -1005);
        fault("d00;o0", -1006);
        fault(ninetySeven + "p0", -1099);
        fault("d10;d10;" + "p0;".repeat(30) + "p0", -1100);

        Check.term(2, "else kind 2 the place of the letter of the first STATEMENT that isn't as told");
        fault("d80;", -2000);
        fault("d00;d90;", -2004);
        fault("d00;o0;s2;", -2007);
        fault("d00;d00;o0;p1;", -2011);
        fault(ninetySeven + "p1;", -2097);

        Check.term(2, "(a number out of range, no such DRAWER, no room, one that MAY not be pulled at p)");
        numbersOutOfRange();
        noSuchDrawer();
        fault("d20;p0;", -2004);
        fault("d00;d00;d00;p2;", -2012);
        fault("d00;d00;p1;p0;p1;", -2014);

        Check.term(2, "-1000 times the kind less the place.");
        fault("q", -1000 * 1 - 0);
        fault("d10;q", -1000 * 1 - 4);
        fault("o0;", -1000 * 2 - 0);
        fault("d10;o1;", -1000 * 2 - 4);

        Check.term(2, "kind 1 (of any place) goes ahead of kind 2");
        fault("o0;x", -1003);
        fault("d80;d00", -1007);
        fault("o9;".repeat(33) + "x", -1099);
        fault("o9;".repeat(33) + "p", -1100);

        Check.term(2, "STATEMENTS are tried one behind the other, each on what those ahead of it made, "
            + "and the first that can't be done so is told");
        Check.due("a drawer that came ahead", Check.read(new AboveIsShut(), "d00;o0;p0;"), 3);
        fault("p0;d00;", -2000);
        fault("o0;d90;", -2000);
        fault("d10;p0;o1;d90;", -2007);
        AboveIsShut opened = Check.walled("d00;d00;d00;");
        Check.due("the third, which may be pulled then", Check.read(opened, "p0;p2;"), 2);
        Check.due("standing", opened.standing(0), 5);
        Check.due("the third, which may not be pulled then", Check.read(opened, "p0;p2;"), -2003);
        Check.due("nothing was pulled", opened.standing(0), 5);
    }

    private static void fault(String text, int want) {
        AboveIsShut x = new AboveIsShut();
        Check.due("the text " + text, Check.read(x, text), want);
        Check.due("drawers behind the text " + text, x.count(0), 0);
    }

    /** Each byte behind what a text begins with: the signs may stand there, all others are told by their place. */
    private static void goesOn(String begun, String signs) {
        for (int sign = Byte.MIN_VALUE; sign <= Byte.MAX_VALUE; sign++) {
            int[] text = (begun + "?").chars().toArray();
            text[begun.length()] = sign;
            AboveIsShut x = new AboveIsShut();
            Check.bytes(x, 0, text);
            String told = "the text " + begun + " and " + sign;
            if (sign < 0 || signs.indexOf(sign) < 0) {
                Check.due(told, x.wall(0), -1000 - begun.length());
            } else if (sign == ';') {
                int answer = x.wall(0);
                Check.holds(told + " is whole", answer > 0 || answer <= -2000);
            } else {
                Check.due(told, x.wall(0), -1000 - text.length);
            }
        }
    }

    private static void numbersOutOfRange() {
        for (int many = 0; many <= 6; many++) {
            for (int kind = 0; kind < 10; kind++) {
                AboveIsShut x = Check.alike(many, 1, 0);
                boolean comes = kind < 8 && many < 6;
                Check.due("d" + kind + "9; behind " + many, Check.read(x, "d" + kind + "9;"), comes ? 1 : -2000);
                Check.due("drawers then", x.count(0), comes ? many + 1 : many);
            }
        }
        fault("d10;d10;d10;d10;d10;d10;d10;", -2024);
        Check.due("six", Check.read(new AboveIsShut(), "d10;d10;d10;d10;d10;d10;"), 6);
    }

    private static void noSuchDrawer() {
        for (int many = 0; many <= 6; many++) {
            int all = (1 << many) - 1;
            for (int drawer = 0; drawer < 10; drawer++) {
                AboveIsShut x = Check.alike(many, 1, 0);
                boolean there = drawer < many;
                int bit = there ? 1 << drawer : 0;
                int want = there ? 1 : -2000;
                Check.due("o" + drawer + "; by " + many, Check.read(x, "o" + drawer + ";"), want);
                Check.due("standing", x.standing(0), bit);
                x.stand(all);
                Check.due("s" + drawer + "; by " + many, Check.read(x, "s" + drawer + ";"), want);
                Check.due("standing", x.standing(0), all - bit);
                x.stand(all);
                Check.due("p" + drawer + "; by " + many, Check.read(x, "p" + drawer + ";"), want);
                Check.due("standing", x.standing(0), all - bit);
            }
        }
    }

    private static void wallRefusals() {
        Check.promise(2, "-1, -11, -12 (no ROW of bytes).");
        for (int d : Check.outside(0, 7)) {
            Refused.by(-1, "wall(" + d + ")", x -> x.wall(d));
        }
        Refused.by(-11, "wall(5), nothing held", x -> x.wall(5));
        Refused.by(-12, "wall(4), a drawer", x -> x.wall(4));
        Refused.by(-12, "wall(2), shorts", x -> x.wall(2));
        Refused.by(-12, "wall(3), ints", x -> x.wall(3));
        AboveIsShut y = new AboveIsShut();
        Check.sorted(y, 0, 1, 'd', '0', '0', ';');
        Check.due("shorts that would be a text", y.wall(0), -12);
        Check.sorted(y, 0, 2, 'x');
        Check.due("ints that would have a fault", y.wall(0), -12);

        Check.term(2, "A refused call changes nothing.");
        Refused.by(-1000, "wall(6), no bytes", x -> x.wall(6));
        for (String text : new String[] {"s1;d10;o0;x", "s1;d10;o0;p9;", "s1;d10;o0;d99;", "d10;d10;p4;d10;"}) {
            boolean whole = text.endsWith(";");
            Refused.by(-1000 * (whole ? 2 : 1) - 10 - (text.endsWith("d10;") ? 1 : 0), text, () -> {
                AboveIsShut x = Refused.furnished();
                Check.text(x, 5, text);
                return x;
            }, x -> x.wall(5));
        }
    }

    private static void drawer() {
        Check.promise(3, "Of a DRAWER: KIND (what 0), FIGURE (1), 1 OPEN (2), 1 it MAY be pulled now (3).");
        AboveIsShut x = Check.walled("d03;d29;d70;d10;d50;d67;o1;o5;");
        int[][] want = {{0, 3, 0, 1}, {2, 9, 1, 0}, {7, 0, 0, 0}, {1, 0, 0, 1}, {5, 0, 0, 1}, {6, 7, 1, 1}};
        for (int drawer = 0; drawer < 6; drawer++) {
            for (int what = 0; what < 4; what++) {
                Check.due("drawer(" + drawer + ", " + what + ")", x.drawer(drawer, what), want[drawer][what]);
            }
        }
        x.stand(63);
        Check.due("the highest is open", x.drawer(0, 2), 1);
        Check.due("the lowest is open", x.drawer(5, 2), 1);
        x.stand(0);
        Check.due("the highest is shut", x.drawer(0, 2), 0);
        Check.due("the lowest is shut", x.drawer(5, 2), 0);
        Check.due("five others, shut, and 7 are odd", x.drawer(5, 3), 0);

        Check.promise(3, "-1.");
        for (int what : Check.outside(0, 3)) {
            Refused.by(-1, "drawer(0, " + what + ")", y -> y.drawer(0, what));
            Refused.by(-1, "drawer(4, " + what + ")", y -> y.drawer(4, what));
        }
        for (int many = 0; many <= 6; many++) {
            int drawers = many;
            for (int number : Check.outside(0, many - 1)) {
                for (int asked = 0; asked < 4; asked++) {
                    int what = asked;
                    Refused.by(-1, "drawer(" + number + ", " + what + ") of " + many, () -> Check.alike(drawers, 0, 3),
                        y -> y.drawer(number, what));
                }
            }
        }
    }

    private static void laws() {
        Check.term(3, "DRAWER if it is the highest, or the one just above is shut and all above that one are OPEN");
        AboveIsShut x = Check.walled("d00;d00;d00;d00;");
        may(x, 0b0000, 0b0011);
        may(x, 0b0001, 0b0101);
        may(x, 0b0010, 0b0011);
        may(x, 0b0011, 0b1001);
        may(x, 0b0111, 0b0001);
        may(x, 0b0101, 0b0101);
        may(x, 0b0110, 0b0011);
        may(x, 0b1111, 0b0001);
        may(x, 0b1011, 0b1001);
        may(Check.alike(6, 0, 0), 0b001111, 0b100001);
        may(Check.alike(6, 0, 0), 0b101111, 0b100001);
        may(Check.alike(6, 0, 0), 0b011111, 0b000001);
        may(Check.alike(1, 0, 0), 0, 1);
        may(Check.alike(1, 0, 0), 1, 1);

        Check.term(3, "FREE always");
        AboveIsShut free = Check.walled("d10;d19;d10;");
        for (int standing = 0; standing < 8; standing++) {
            may(free, standing, 7);
        }

        Check.term(3, "STUCK never");
        AboveIsShut stuck = Check.walled("d20;d29;d20;");
        for (int standing = 0; standing < 8; standing++) {
            may(stuck, standing, 0);
        }

        Check.term(3, "UNDER if it is the highest, or the one just above is shut");
        AboveIsShut under = Check.walled("d30;d30;d30;");
        may(under, 0b000, 0b111);
        may(under, 0b001, 0b101);
        may(under, 0b010, 0b011);
        may(under, 0b100, 0b111);
        may(under, 0b011, 0b001);
        may(under, 0b111, 0b001);

        Check.term(3, "OVER as a DRAWER, and if DRAWER FIGURE is shut or there is none such");
        AboveIsShut over = Check.walled("d42;d40;d42;");
        may(over, 0b000, 0b011);
        may(over, 0b001, 0b101);
        may(over, 0b100, 0b010);
        may(over, 0b101, 0b000);
        may(over, 0b011, 0b001);
        AboveIsShut overNone = Check.walled("d43;d49;d46;");
        may(overNone, 0b000, 0b011);
        may(overNone, 0b001, 0b101);
        may(overNone, 0b111, 0b001);
        AboveIsShut overLowest = Check.alike(6, 4, 5);
        may(overLowest, 0b011111, 0b000001);
        may(overLowest, 0b111111, 0b000000);
        AboveIsShut overNext = Check.alike(6, 4, 6);
        may(overNext, 0b111111, 0b000001);

        Check.term(3, "LOOSE as an UNDER, or if FIGURE DRAWERS at least are OPEN");
        AboveIsShut loose = Check.walled("d59;d52;d51;");
        may(loose, 0b000, 0b111);
        may(loose, 0b001, 0b101);
        may(loose, 0b010, 0b111);
        may(loose, 0b110, 0b111);
        may(loose, 0b011, 0b111);
        AboveIsShut looseNever = Check.walled("d59;d54;d50;");
        may(looseNever, 0b111, 0b101);
        may(looseNever, 0b000, 0b111);
        may(looseNever, 0b010, 0b111);
        may(looseNever, 0b011, 0b101);
        may(Check.alike(6, 5, 6), 0b111111, 0b111111);
        may(Check.alike(6, 5, 7), 0b111111, 0b000001);
        may(Check.alike(6, 5, 5), 0b011111, 0b111111);
        may(Check.alike(6, 5, 6), 0b011111, 0b000001);

        Check.term(3, "ODD if how many others are OPEN, and FIGURE together are even");
        AboveIsShut odd = Check.walled("d60;d61;d69;");
        may(odd, 0b000, 0b001);
        may(odd, 0b001, 0b111);
        may(odd, 0b010, 0b100);
        may(odd, 0b100, 0b010);
        may(odd, 0b011, 0b010);
        may(odd, 0b111, 0b001);
        may(Check.alike(6, 6, 0), 0b111111, 0b000000);
        may(Check.alike(6, 6, 9), 0b111111, 0b111111);

        Check.term(3, "LATCH to be shut always, to be opened as a DRAWER.");
        AboveIsShut latch = Check.walled("d70;d70;d70;");
        may(latch, 0b000, 0b011);
        may(latch, 0b001, 0b101);
        may(latch, 0b111, 0b111);
        may(latch, 0b110, 0b111);
        may(latch, 0b011, 0b011);
        may(latch, 0b100, 0b111);
        may(Check.alike(6, 7, 0), 0b111111, 0b111111);
        may(Check.alike(6, 7, 0), 0b001111, 0b101111);
    }

    private static void may(AboveIsShut x, int standing, int want) {
        Check.holds("it can stand so", x.stand(standing) >= 0);
        Check.due("those that may be pulled at " + standing, x.standing(1), want);
        Check.due("how many may be pulled at " + standing, x.count(2), Integer.bitCount(want));
        for (int drawer = 0; drawer < x.count(0); drawer++) {
            Check.due("drawer(" + drawer + ", 3) at " + standing, x.drawer(drawer, 3), want >> drawer & 1);
        }
    }

    /** Walls of each size of one law alone, by each figure, at each standing. */
    private static void lawsEverywhere() {
        Check.term(7, "One MAY be pulled (opened if it is shut, shut if it is OPEN)");
        for (int kind = 0; kind < 8; kind++) {
            for (int figure = 0; figure < 10; figure++) {
                for (int many = 1; many <= 6; many++) {
                    everyStanding(many, kind, figure);
                }
            }
        }
    }

    private static void everyStanding(int many, int kind, int figure) {
        AboveIsShut x = Check.alike(many, kind, figure);
        for (int standing = 0; standing < 1 << many; standing++) {
            int want = 0;
            for (int drawer = 0; drawer < many; drawer++) {
                want += (lawSays(kind, figure, drawer, standing) ? 1 : 0) << drawer;
            }
            x.stand(standing);
            Check.due(many + " of kind " + kind + " by " + figure + " at " + standing, x.standing(1), want);
        }
    }

    private static boolean lawSays(int kind, int figure, int drawer, int standing) {
        String all = new StringBuilder(Integer.toBinaryString(standing + 64).substring(1)).reverse().toString();
        String above = all.substring(0, drawer);
        long open = all.chars().filter(c -> c == '1').count();
        boolean joiner = drawer == 0 || above.equals("1".repeat(drawer - 1) + "0");
        boolean under = !above.endsWith("1");
        switch (kind) {
            case 0: return joiner;
            case 1: return true;
            case 2: return false;
            case 3: return under;
            case 4: return joiner && (figure > 5 || all.charAt(figure) == '0');
            case 5: return under || open >= figure;
            case 6: return (open + figure) % 2 == (all.charAt(drawer) == '1' ? 1 : 0);
            default: return joiner || all.charAt(drawer) == '1';
        }
    }

    private static void comes() {
        Check.promise(4, "The DRAWER on SHELF d comes as one more, shut: its number.");
        AboveIsShut x = new AboveIsShut();
        x.keep(2, 1, 4, 7);
        for (int number = 0; number < 6; number++) {
            Check.due("comes(2)", x.comes(2), number);
            Check.due("shut", x.drawer(number, 2), 0);
            Check.due("KIND", x.drawer(number, 0), 4);
            Check.due("FIGURE", x.drawer(number, 1), 7);
            Check.due("drawers", x.count(0), number + 1);
        }
        for (int d = 0; d < 8; d++) {
            AboveIsShut y = Check.walled("d10;o0;");
            y.keep(d, 1, 7 - d, 9 - d);
            Check.due("comes(" + d + ")", y.comes(d), 1);
            Check.due("the one ahead stays open, the one more is shut", y.standing(0), 1);
            Check.due("KIND", y.drawer(1, 0), 7 - d);
            Check.due("FIGURE", y.drawer(1, 1), 9 - d);
        }

        Check.term(4, "DRAWERS 0 .. 5 as they come (0 the highest)");
        AboveIsShut six = Check.walled("d00;d11;d22;d33;d44;");
        six.keep(0, 1, 5, 5);
        Check.due("comes(0)", six.comes(0), 5);
        for (int drawer = 0; drawer < 6; drawer++) {
            Check.due("as they came", six.drawer(drawer, 0), drawer);
            Check.due("as they came", six.drawer(drawer, 1), drawer);
        }
        Check.due("no drawer 6", six.drawer(6, 0), -1);
        AboveIsShut two = Check.walled("d00;d00;o0;");
        Check.due("0 is the highest, the other one below it", two.standing(1), 1);

        Check.term(4, "each OPEN or shut (shut at first)");
        AboveIsShut emptied = Check.walled("d10;d10;");
        emptied.image();
        emptied.keep(0, 1, 1, 0);
        emptied.comes(0);
        emptied.pull(2);
        emptied.restore();
        Check.due("comes(0)", emptied.comes(0), 2);
        Check.due("shut, though one of its number was open", emptied.standing(0), 0);

        Check.term(4, "The ROW that is read, and what is taken from a SHELF, stay there");
        Check.due("it stays on the shelf", x.cost(2), 32);
        x.keep(2, 1, 1, 0);
        Check.due("another one on the shelf changes no wall", x.drawer(0, 0), 4);

        Check.promise(4, "-1, -11, -12 (a ROW), -2.");
        for (int d : Check.outside(0, 7)) {
            Refused.by(-1, "comes(" + d + ")", y -> y.comes(d));
            Refused.by(-1, "comes(" + d + ") without room", Refused::full, y -> y.comes(d));
        }
        Refused.by(-11, "comes(5), nothing held", y -> y.comes(5));
        Refused.by(-11, "comes(5), nothing held, without room", Refused::full, y -> y.comes(5));
        for (int d : new int[] {0, 1, 2, 3, 6}) {
            Refused.by(-12, "comes(" + d + "), a row", y -> y.comes(d));
            Refused.by(-12, "comes(" + d + "), a row, without room", Refused::full, y -> y.comes(d));
        }
        Refused.by(-2, "comes(4) without room", Refused::full, y -> y.comes(4));
        Refused.by(-2, "comes(7) without room", Refused::full, y -> y.comes(7));
    }

    private static void changes() {
        Check.promise(5, "The DRAWER on SHELF d is in place of one, OPEN or shut as that was: KIND before.");
        AboveIsShut x = Check.walled("d25;d10;o0;");
        x.keep(0, 1, 7, 3);
        Check.due("changes(0, 0)", x.changes(0, 0), 2);
        Check.due("kind", x.drawer(0, 0), 7);
        Check.due("figure", x.drawer(0, 1), 3);
        Check.due("open as before", x.standing(0), 1);
        Check.due("changes(0, 1)", x.changes(0, 1), 1);
        Check.due("shut as before", x.standing(0), 1);
        int before = 7;
        for (int kind = 0; kind < 8; kind++) {
            x.keep(2, 1, kind, 9 - kind);
            Check.due("KIND before " + kind, x.changes(2, 1), before);
            Check.due("KIND " + kind, x.drawer(1, 0), kind);
            Check.due("FIGURE of KIND " + kind, x.drawer(1, 1), 9 - kind);
            before = kind;
        }
        AboveIsShut six = Check.alike(6, 2, 0);
        six.stand(32);
        six.keep(7, 1, 1, 0);
        Check.due("changes(7, 5)", six.changes(7, 5), 2);
        Check.due("the lowest alone may be pulled", six.standing(1), 32);
        Check.due("drawers", six.count(0), 6);

        Check.term(5, "The ROW that is read, and what is taken from a SHELF, stay there");
        Check.due("it stays on the shelf", six.changes(7, 5), 1);

        Check.promise(5, "-1, -11, -12 (a ROW).");
        for (int d : Check.outside(0, 7)) {
            Refused.by(-1, "changes(" + d + ", 0)", y -> y.changes(d, 0));
            Refused.by(-1, "changes(" + d + ", 4)", y -> y.changes(d, 4));
        }
        for (int drawer : Check.outside(0, 3)) {
            Refused.by(-1, "changes(7, " + drawer + ")", y -> y.changes(7, drawer));
            Refused.by(-1, "changes(5, " + drawer + "), nothing held", y -> y.changes(5, drawer));
            Refused.by(-1, "changes(0, " + drawer + "), a row", y -> y.changes(0, drawer));
        }
        Refused.by(-1, "changes(4, 0) without drawers", Refused::withoutDrawers, y -> y.changes(4, 0));
        Refused.by(-1, "changes(7, 6) of six", Refused::full, y -> y.changes(7, 6));
        Refused.by(-11, "changes(5, 3), nothing held", y -> y.changes(5, 3));
        for (int d : new int[] {0, 1, 2, 3, 6}) {
            Refused.by(-12, "changes(" + d + ", 0), a row", y -> y.changes(d, 0));
        }
    }

    private static void pull() {
        Check.promise(6, "It is pulled: the STANDING then.");
        AboveIsShut x = Check.walled("d00;d00;d00;");
        Check.due("pull(1)", x.pull(1), 2);
        Check.due("pull(0)", x.pull(0), 3);
        Check.due("standing", x.standing(0), 3);
        Check.due("pull(0)", x.pull(0), 2);
        Check.due("pull(1)", x.pull(1), 0);

        Check.term(6, "One MAY be pulled (opened if it is shut, shut if it is OPEN)");
        AboveIsShut free = Check.alike(6, 1, 0);
        int standing = 0;
        for (int drawer = 0; drawer < 6; drawer++) {
            standing += 1 << drawer;
            Check.due("opened", free.pull(drawer), standing);
        }
        for (int drawer = 5; drawer >= 0; drawer--) {
            standing -= 1 << drawer;
            Check.due("shut", free.pull(drawer), standing);
        }

        Check.promise(6, "-1, -3 it MAY not be.");
        for (int many = 0; many <= 6; many++) {
            int drawers = many;
            for (int number : Check.outside(0, many - 1)) {
                Refused.by(-1, "pull(" + number + ") of " + many, () -> Check.alike(drawers, 1, 0), y -> y.pull(number));
            }
        }
        for (int drawer = 1; drawer < 4; drawer++) {
            int number = drawer;
            Refused.by(-3, "pull(" + number + ")", y -> y.pull(number));
        }
        Refused.by(-3, "pull(5) of six", () -> Check.alike(6, 0, 0), y -> y.pull(5));
        Refused.by(-3, "pull(0) of a stuck one", () -> Check.alike(1, 2, 0), y -> y.pull(0));
    }

    private static void standing() {
        Check.promise(7, "STANDING (what 0), those that MAY be pulled (1, bits).");
        AboveIsShut x = Check.walled("d10;d20;d10;o1;");
        Check.due("standing(0)", x.standing(0), 2);
        Check.due("standing(1)", x.standing(1), 5);
        for (int many = 0; many <= 6; many++) {
            int all = (1 << many) - 1;
            AboveIsShut free = Check.alike(many, 1, 0);
            Check.due("none open of " + many, free.standing(0), 0);
            Check.due("all may be pulled of " + many, free.standing(1), all);
            free.stand(all);
            Check.due("all open of " + many, free.standing(0), all);
            AboveIsShut stuck = Check.alike(many, 2, 0);
            Check.due("none may be pulled of " + many, stuck.standing(1), 0);
        }

        Check.promise(7, "-1.");
        for (int what : Check.outside(0, 1)) {
            Refused.by(-1, "standing(" + what + ")", y -> y.standing(what));
            Refused.by(-1, "standing(" + what + ") without drawers", Refused::withoutDrawers, y -> y.standing(what));
        }
    }

    private static void stand() {
        Check.promise(8, "The STANDING becomes that: what it was.");
        AboveIsShut x = Check.walled("d00;d20;");
        Check.due("stand(3)", x.stand(3), 0);
        Check.due("stand(2)", x.stand(2), 3);
        Check.due("standing(0)", x.standing(0), 2);
        Check.due("stand(2) once more", x.stand(2), 2);

        Check.term(8, "A STANDING: which are OPEN (bits).");
        for (int many = 0; many <= 6; many++) {
            AboveIsShut y = Check.alike(many, 2, 0);
            for (int standing = 0; standing < 1 << many; standing++) {
                Check.due("stand", y.stand(standing), Math.max(0, standing - 1));
                Check.due("how many are open", y.count(1), Integer.bitCount(standing));
                for (int drawer = 0; drawer < many && standing % 7 == 0; drawer++) {
                    Check.due("open at " + standing, y.drawer(drawer, 2), standing >> drawer & 1);
                }
            }
        }

        Check.promise(8, "-1 (bits of DRAWERS that there are not).");
        for (int many = 0; many <= 6; many++) {
            int drawers = many;
            for (int standing : Check.outside(0, (1 << many) - 1)) {
                Refused.by(-1, "stand(" + standing + ") of " + many, () -> Check.alike(drawers, 1, 0),
                    y -> y.stand(standing));
            }
        }
        for (int standing : Check.outside(0, 15)) {
            Refused.by(-1, "stand(" + standing + ")", y -> y.stand(standing));
        }
    }
}
