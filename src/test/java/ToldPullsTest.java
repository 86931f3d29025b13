/** Promises 21 to 23. */
final class ToldPullsTest {
    private ToldPullsTest() {
    }

    public static void main(String[] args) {
        all();
        Check.end();
    }

    static void all() {
        run();
        runRefusals();
        seeded();
        draws();
        seededRefusals();
        judge();
        judgeRefusals();
    }

    private static void run() {
        Check.promise(21, "RUN by the ROW in SHELF d: the STANDING (what 0), how many (1).");
        AboveIsShut x = Check.walled("d00;d00;d20;");
        for (int d = 0; d < 8; d++) {
            Check.bytes(x, d, 0, 1, 2, 0, 1, 1, 0);
            Check.due("run(" + d + ", 0)", x.run(d, 0), 1);
            Check.due("run(" + d + ", 1)", x.run(d, 1), 5);
        }

        Check.term(21, "RUN: a ROW of bytes tells DRAWERS to be pulled, one behind the other, those that MAY not left out "
            + "(in mind): the STANDING then; how many were pulled.");
        Check.due("the standing stays", x.standing(0), 0);
        x.stand(3);
        Check.due("from now", x.run(0, 0), 0);
        Check.due("from now", x.run(0, 1), 4);
        Check.bytes(x, 0);
        Check.due("no pulls", x.run(0, 0), 3);
        Check.due("no pulls", x.run(0, 1), 0);
        Check.bytes(x, 0, 2, 2, 2);
        Check.due("none that may be", x.run(0, 0), 3);
        Check.due("none that may be", x.run(0, 1), 0);
        AboveIsShut six = Check.alike(6, 1, 0);
        Check.bytes(six, 0, new int[100]);
        Check.due("100 pulls", six.run(0, 0), 0);
        Check.due("100 pulls", six.run(0, 1), 100);
        Check.bytes(six, 0, 5, 0, 1, 2, 3, 4);
        Check.due("each of six", six.run(0, 0), 63);
        Check.due("each of six", six.run(0, 1), 6);
        Check.due("the standing stays", six.standing(0), 0);
        AboveIsShut none = Refused.withoutDrawers();
        Check.due("no pulls, without drawers", none.run(6, 0), 0);
        Check.due("no pulls, without drawers", none.run(6, 1), 0);

        Check.term(21, "The ROW that is read, and what is taken from a SHELF, stay there");
        Check.elements(six, 0, 5, 0, 1, 2, 3, 4);
    }

    private static void runRefusals() {
        Check.promise(21, "-1, -11, -12 (no ROW of bytes), -13 (no DRAWER).");
        for (int what : Check.outside(0, 1)) {
            for (int d : Check.outside(0, 7)) {
                Refused.by(-1, "run(" + d + ", 0)", y -> y.run(d, 0));
                Refused.by(-1, "run(" + d + ", " + what + ")", y -> y.run(d, what));
            }
            for (int d = 0; d < 8; d++) {
                int shelf = d;
                Refused.by(-1, "run(" + d + ", " + what + ")", y -> y.run(shelf, what));
            }
            Refused.by(-1, "what " + what + " without drawers", Refused::withoutDrawers, y -> y.run(0, what));
        }
        for (int what = 0; what < 2; what++) {
            int asked = what;
            Refused.by(-11, "nothing held", y -> y.run(5, asked));
            Refused.by(-12, "a drawer", y -> y.run(4, asked));
            Refused.by(-12, "shorts", y -> y.run(2, asked));
            Refused.by(-12, "ints, one of which is no drawer", y -> y.run(3, asked));
            Refused.by(-13, "no drawers at all", Refused::withoutDrawers, y -> y.run(0, asked));
            runWrong("drawer 4 of four", asked, 4);
            runWrong("drawer 4 behind right ones", asked, 0, 1, 2, 3, 4);
            runWrong("drawer 4 ahead of right ones", asked, 4, 3, 2, 1, 0);
            runWrong("drawer -1", asked, 0, -1);
            runWrong("drawer 127", asked, 127);
            runWrong("drawer -128", asked, -128);
        }
        AboveIsShut x = Refused.furnished();
        Check.bytes(x, 5, 3, 3, 0);
        Check.due("drawers 0 and 3 are right", x.run(5, 1), 1);
        Check.bytes(x, 5, 256, 259);
        Check.due("so they are by their lowest bits", x.run(5, 0), 11);
    }

    private static void runWrong(String told, int what, int... drawers) {
        Refused.by(-13, told, () -> {
            AboveIsShut x = Refused.furnished();
            Check.bytes(x, 5, drawers);
            return x;
        }, y -> y.run(5, what));
    }

    private static void seeded() {
        Check.promise(22, "SEEDED: the STANDING (what 0), how many (1).");
        AboveIsShut joiners = Check.walled("d00;d00;d00;");
        joiners.stand(7);
        Check.due("one pull from all open: a draw of 0 alone moves", joiners.seeded(1, 3, 1), 0);
        Check.due("one pull from all open: a draw of 0 alone moves", joiners.seeded(1, 3, 0), 7);
        Check.due("the standing stays", joiners.standing(0), 7);

        Check.term(22, "SEEDED: n times (1 .. 60) with a seed z, in mind, a DRAWER (a DRAW below how many there are) is "
            + "pulled, if it MAY be: likewise.");
        AboveIsShut one = Check.alike(1, 1, 0);
        for (int n = 1; n <= 60; n++) {
            Check.due("n " + n + " of the only drawer", one.seeded(n, n, 0), n % 2);
            Check.due("n " + n + " of the only drawer", one.seeded(n, -n, 1), n);
        }
        AboveIsShut stuck = Check.walled("d20;o0;");
        Check.due("what may not be pulled is left out", stuck.seeded(60, 3, 0), 1);
        Check.due("and not counted", stuck.seeded(60, 3, 1), 0);
        int at5 = joiners.seeded(9, 5, 0);
        Check.due("the same once more", joiners.seeded(9, 5, 0), at5);
    }

    /** The draws are worked out here once more, with longs. */
    private static void draws() {
        Check.term(22, "DRAWS: z becomes z times 1103515245 plus 12345 (an int)");
        Check.due("12345, so drawer 0", Check.alike(6, 1, 0).seeded(1, 0, 0), 1);
        Check.due("z of 1, 1103527590, so 16838, so drawer 2", Check.alike(6, 1, 0).seeded(1, 1, 0), 4);
        Check.due("z of -1, below 0, so 15929, so drawer 5", Check.alike(6, 1, 0).seeded(1, -1, 0), 32);
        int[] seeds = {0, 1, 2, 5, -1, -2, 12345, 65535, 65536, Integer.MAX_VALUE, Integer.MIN_VALUE, -987654321};
        for (int many = 1; many <= 6; many++) {
            for (int seed : seeds) {
                AboveIsShut free = Check.alike(many, 1, 0);
                long z = seed & 0xffffffffL;
                int standing = 0;
                for (int n = 1; n <= 60; n++) {
                    z = (z * 1103515245L + 12345L) & 0xffffffffL;
                    standing ^= 1 << (int) ((z & 0x7fffffffL) / 65536 % many);
                    Check.due("seeded(" + n + ", " + seed + ", 0) of " + many, free.seeded(n, seed, 0), standing);
                    Check.due("seeded(" + n + ", " + seed + ", 1) of " + many, free.seeded(n, seed, 1), n);
                }
                Check.due("the standing stays", free.standing(0), 0);
            }
        }

        Check.term(22, "a DRAW below n is (z without its sign's bit over 65536, cut) modulo n.");
        AboveIsShut six = Check.alike(6, 0, 0);
        for (int seed : seeds) {
            Check.due("the sign's bit of z changes no draw", six.seeded(60, seed ^ Integer.MIN_VALUE, 0),
                six.seeded(60, seed, 0));
        }
    }

    private static void seededRefusals() {
        Check.promise(22, "-1, -3 there are no DRAWERS.");
        for (int n : Check.outside(1, 60)) {
            Refused.by(-1, "n " + n, y -> y.seeded(n, 1, 0));
            Refused.by(-1, "n " + n + " without drawers", Refused::withoutDrawers, y -> y.seeded(n, 1, 1));
        }
        Refused.by(-1, "n 0", y -> y.seeded(0, 0, 0));
        Refused.by(-1, "n 61", y -> y.seeded(61, 0, 0));
        for (int what : Check.outside(0, 1)) {
            Refused.by(-1, "what " + what, y -> y.seeded(1, 1, what));
            Refused.by(-1, "what " + what + " without drawers", Refused::withoutDrawers, y -> y.seeded(60, 1, what));
        }
        Refused.by(-3, "without drawers, n 1", Refused::withoutDrawers, y -> y.seeded(1, 0, 0));
        Refused.by(-3, "without drawers, n 60", Refused::withoutDrawers, y -> y.seeded(60, -1, 1));
    }

    private static void judge() {
        Check.promise(23, "JUDGED by the ROW in SHELF d; -4.");
        AboveIsShut x = Check.walled("d00;d00;d00;");
        for (int d = 0; d < 8; d++) {
            Check.bytes(x, d, 0, 2, 0, 1, 0, 0);
            Check.due("all may be pulled", x.judge(d), -4);
            Check.bytes(x, d, 0, 0, 2);
            Check.due("the third may not", x.judge(d), 2);
        }

        Check.term(23, "JUDGED: a ROW: DRAWERS that are pulled, one behind the other (in mind): the place of the first that "
            + "is none or MAY not be pulled by then; -4.");
        for (int sort = 0; sort < 3; sort++) {
            Check.sorted(x, 0, sort, 0, 2, 0, 1, 0, 0);
            Check.due("all may be pulled", x.judge(0), -4);
            Check.sorted(x, 0, sort, 0, 1, 3);
            Check.due("the second may not, and the third is none", x.judge(0), 1);
            Check.sorted(x, 0, sort, 0, 3, 1);
            Check.due("the second is none, and the third may not", x.judge(0), 1);
            Check.sorted(x, 0, sort, 3);
            Check.due("no such drawer", x.judge(0), 0);
            Check.sorted(x, 0, sort, 0, -1);
            Check.due("none below 0", x.judge(0), 1);
            Check.sorted(x, 0, sort);
            Check.due("no pulls", x.judge(0), -4);
        }
        for (int none : Check.outside(0, 2)) {
            Check.sorted(x, 0, 2, 0, 0, none);
            Check.due("none of number " + none, x.judge(0), 2);
        }
        Check.due("the standing stays", x.standing(0), 0);
        x.stand(3);
        Check.sorted(x, 0, 1, 1);
        Check.due("from now", x.judge(0), 0);
        AboveIsShut free = Check.alike(6, 1, 0);
        for (int sort = 0; sort < 3; sort++) {
            free.row(0, sort, 100);
            free.put(0, 99, 5);
            Check.due("100 that may be pulled", free.judge(0), -4);
            free.put(0, 99, 6);
            Check.due("the last of 100 is none", free.judge(0), 99);
        }
        AboveIsShut none = Refused.withoutDrawers();
        Check.due("without drawers", none.judge(0), 0);
        Check.due("no pulls, without drawers", none.judge(6), -4);

        Check.term(23, "The ROW that is read, and what is taken from a SHELF, stay there");
        Check.due("the last of 100", free.element(0, 99), 6);
    }

    private static void judgeRefusals() {
        Check.promise(23, "-1, -11, -12 (no ROW).");
        for (int d : Check.outside(0, 7)) {
            Refused.by(-1, "judge(" + d + ")", y -> y.judge(d));
        }
        Refused.by(-11, "nothing held", y -> y.judge(5));
        Refused.by(-11, "nothing held, without drawers", Refused::withoutDrawers, y -> y.judge(5));
        Refused.by(-12, "a drawer", y -> y.judge(4));
        Refused.by(-12, "a drawer, without drawers", Refused::withoutDrawers, y -> y.judge(4));
        Refused.by(1, "the answer is no refusal, and changes nothing, too", y -> y.judge(3));
    }
}
