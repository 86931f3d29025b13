/** Promises 21 to 23. */
final class ToldPullsTest {
    private ToldPullsTest() {
    }

    public static void main(String[] args) {
        run();
        runRefusals();
        seeded();
        judge();
        Check.end();
    }

    private static void run() {
        AboveIsShut x = Check.walled("d00;d00;d20;");
        Check.bytes(x, 0, 0, 1, 2, 0, 1, 1, 0);
        Check.due("run(0, 0)", x.run(0, 0), 1);
        Check.due("run(0, 1)", x.run(0, 1), 5);
        Check.due("the standing stays", x.standing(0), 0);
        Check.due("the row stays", x.element(0, 1), 1);
        x.stand(3);
        Check.due("from now", x.run(0, 0), 0);
        Check.due("from now", x.run(0, 1), 4);
        Check.bytes(x, 0);
        Check.due("no pulls", x.run(0, 0), 3);
        Check.due("no pulls", x.run(0, 1), 0);
    }

    private static void runRefusals() {
        AboveIsShut x = Check.walled("d00;d00;");
        Check.due("shelf -1", x.run(-1, 0), -1);
        Check.due("shelf 8", x.run(8, 0), -1);
        Check.due("what 2, nothing held", x.run(0, 2), -1);
        Check.due("what -1", x.run(0, -1), -1);
        Check.due("nothing held", x.run(0, 0), -11);
        x.keep(0, 1, 0, 0);
        Check.due("a drawer", x.run(0, 0), -12);
        Check.sorted(x, 0, 1, 0);
        Check.due("shorts", x.run(0, 0), -12);
        Check.sorted(x, 0, 2, 7);
        Check.due("ints", x.run(0, 0), -12);
        Check.bytes(x, 0, 0, 2);
        Check.due("no such drawer", x.run(0, 0), -13);
        Check.bytes(x, 0, -1, 0);
        Check.due("no such drawer", x.run(0, 1), -13);
    }

    /** The draws are worked out here once more, with longs. */
    private static void seeded() {
        AboveIsShut free = Check.walled("d10;d10;d10;d10;d10;");
        int[] seeds = {0, 1, 5, -1, 12345, Integer.MAX_VALUE, Integer.MIN_VALUE, -987654321};
        int[] sizes = {1, 2, 7, 59, 60};
        for (int seed : seeds) {
            for (int n : sizes) {
                long z = seed & 0xffffffffL;
                int standing = 0;
                for (int i = 0; i < n; i++) {
                    z = (z * 1103515245L + 12345L) & 0xffffffffL;
                    standing ^= 1 << (int) ((z & 0x7fffffffL) / 65536 % 5);
                }
                Check.due("seeded(" + n + ", " + seed + ", 0)", free.seeded(n, seed, 0), standing);
                Check.due("seeded(" + n + ", " + seed + ", 1)", free.seeded(n, seed, 1), n);
            }
        }
        Check.due("the standing stays", free.standing(0), 0);
        AboveIsShut joiners = Check.walled("d00;d00;d00;");
        int at5 = joiners.seeded(9, 5, 0);
        Check.due("the same once more", joiners.seeded(9, 5, 0), at5);
        joiners.stand(7);
        Check.due("one pull from all open: a draw of 0 alone moves", joiners.seeded(1, 3, 1), 0);
        Check.due("one pull from all open: a draw of 0 alone moves", joiners.seeded(1, 3, 0), 7);
        AboveIsShut stuck = Check.walled("d20;o0;");
        Check.due("what may not be pulled is left out", stuck.seeded(60, 3, 0), 1);
        Check.due("and not counted", stuck.seeded(60, 3, 1), 0);
        Check.due("n 0", stuck.seeded(0, 1, 0), -1);
        Check.due("n 61", stuck.seeded(61, 1, 0), -1);
        Check.due("n -1", stuck.seeded(-1, 1, 0), -1);
        Check.due("what 2", stuck.seeded(1, 1, 2), -1);
        Check.due("what -1", stuck.seeded(1, 1, -1), -1);
        AboveIsShut none = new AboveIsShut();
        Check.due("no drawers", none.seeded(1, 1, 1), -3);
        Check.due("no drawers, n 0", none.seeded(0, 1, 0), -1);
        Check.due("no drawers, what 2", none.seeded(1, 1, 2), -1);
    }

    private static void judge() {
        AboveIsShut x = Check.walled("d00;d00;d00;");
        for (int sort = 0; sort < 3; sort++) {
            Check.sorted(x, 0, sort, 0, 2, 0, 1, 0, 0);
            Check.due("all may be pulled", x.judge(0), -4);
            Check.sorted(x, 0, sort, 0, 0, 2);
            Check.due("the third may not", x.judge(0), 2);
            Check.sorted(x, 0, sort, 0, 1, 3);
            Check.due("the second may not", x.judge(0), 1);
            Check.sorted(x, 0, sort, 3);
            Check.due("no such drawer", x.judge(0), 0);
            Check.sorted(x, 0, sort, 0, -1);
            Check.due("none below 0", x.judge(0), 1);
            Check.sorted(x, 0, sort);
            Check.due("no pulls", x.judge(0), -4);
        }
        Check.sorted(x, 0, 2, Integer.MIN_VALUE);
        Check.due("far below", x.judge(0), 0);
        Check.sorted(x, 0, 2, Integer.MAX_VALUE);
        Check.due("far above", x.judge(0), 0);
        Check.due("the standing stays", x.standing(0), 0);
        Check.due("shelf -1", x.judge(-1), -1);
        Check.due("shelf 8", x.judge(8), -1);
        Check.due("nothing held", x.judge(1), -11);
        x.keep(1, 1, 0, 0);
        Check.due("a drawer", x.judge(1), -12);
    }
}
