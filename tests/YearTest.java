/** Promises 22 to 26: odds of sun, years by draws, what is kept and brought back, counts. */
final class YearTest {
    private static final int BAD = PuddleStates.BAD, NO = PuddleStates.NO, FULL = PuddleStates.FULL;

    public static void main(String[] args) {
        sun();
        sunInTheShade();
        year();
        yearByHand();
        keepAndBack();
        count();
        noArgumentThrows();
        Due.end("YearTest");
    }

    private static void sunIs(PuddleStates p, int x, int n, int odds, int above, int below) {
        Due.is("sun(" + x + ", " + n + ", " + odds + ", 0)", p.sun(x, n, odds, 0), above);
        Due.is("sun(" + x + ", " + n + ", " + odds + ", 1)", p.sun(x, n, odds, 1), below);
    }

    private static void sun() {
        PuddleStates p = Due.laid("s2,2;w0,1;w1,1;w2,1;w3,1;");
        int[][] wrong = {{4, 0, 0, 0}, {-1, 0, 0, 0}, {0, 7, 0, 0}, {0, -1, 0, 0}, {0, 0, 11, 0}, {0, 0, -1, 0},
            {0, 0, 0, 2}, {0, 0, 0, -1}};
        for (int[] w : wrong) {
            Due.is("sun of a number not told", p.sun(w[0], w[1], w[2], w[3]), BAD);
        }
        sunIs(p, 0, 0, 0, 1, 1);
        sunIs(p, 0, 0, 10, 1, 1);
        sunIs(p, 0, 6, 0, 1, 1);
        sunIs(p, 0, 6, 10, 0, 1);
        sunIs(p, 0, 1, 4, 3, 5);
        sunIs(p, 0, 1, 7, 3, 10);
        sunIs(p, 0, 2, 3, 49, 100);
        sunIs(p, 0, 6, 5, 1, 64);
        sunIs(p, 0, 6, 3, 117649, 1000000);
        sunIs(p, 0, 6, 9, 1, 1000000);
        PuddleStates two = Due.laid("s2,2;w0,2;w1,2;w2,2;w3,2;");
        // No hour of three, or one: 0.3 * 0.3 * 0.3 and 3 * 0.7 * 0.3 * 0.3, together 0.216.
        sunIs(two, 3, 3, 7, 27, 125);
        sunIs(two, 3, 1, 10, 1, 1);
        sunIs(two, 3, 2, 10, 0, 1);
        PuddleStates dry = Due.laid("s2,2;");
        sunIs(dry, 0, 4, 5, 0, 1);
        PuddleStates pump = Due.laid("s2,2;k0,4;");
        sunIs(pump, 0, 1, 2, 1, 5);
        sunIs(pump, 0, 2, 5, 3, 4);
        Due.is("nothing changes", pump.count(4) + pump.count(5) + pump.count(7), 0);
    }

    private static void sunInTheShade() {
        PuddleStates p = Due.laid("s2,2;k0,1;w0,1;k1,3;k2,3;");
        sunIs(p, 0, 1, 10, 1, 1);
        sunIs(p, 0, 2, 10, 0, 1);
        sunIs(p, 0, 2, 5, 3, 4);
        p.shine(1);
        sunIs(p, 0, 1, 10, 0, 1);
        sunIs(p, 0, 2, 5, 1, 4);
    }

    private static void year() {
        PuddleStates p = new PuddleStates();
        int[][] wrong = {{10000, 1, 0}, {-1, 1, 0}, {0, 0, 0}, {0, 31, 0}, {0, -1, 0}, {0, 1, 2}, {0, 1, -1}};
        for (int[] w : wrong) {
            Due.is("year of a number not told", p.year(w[0], w[1], w[2]), BAD);
        }
        int drops = p.count(4);
        p.year(9999, 30, 1);
        Due.is("nothing changes", p.count(4) - drops + p.count(5) + p.count(7), 0);
    }

    /** The same weather, day by day, by calls of rain and shine. */
    private static void yearByHand() {
        int[] years = {0, 1, 2, 13, 77, 5000, 9998, 9999};
        for (int z : years) {
            PuddleStates p = new PuddleStates();
            PuddleStates asked = new PuddleStates();
            p.shine(1);
            asked.shine(1);
            for (int n = 1; n <= 30; n++) {
                long x = 7919L * z + 6151L * (n - 1) + 1;
                long draw = (x * x) % 65521 / 8;
                if (draw % 4 > 0) {
                    p.rain((int) (draw % 4));
                }
                if (draw / 4 % 4 > 0) {
                    p.shine((int) (draw / 4 % 4));
                }
                Due.is("year(" + z + ", " + n + ", 0)", asked.year(z, n, 0), p.count(3));
                Due.is("year(" + z + ", " + n + ", 1)", asked.year(z, n, 1), p.count(4));
            }
        }
        // Year 0, day 0: 1 by 8, cut, is 0: no rain, no hour.
        Due.is("a day without weather", new PuddleStates().year(0, 1, 1), 3);
        // Year 1, day 0: 7920 times itself is 62726400, modulo 65521 it is 22803, by 8 2850: a rain of 2, no hour.
        PuddleStates flat = Due.laid("s2,2;");
        Due.is("a rain of 2", flat.year(1, 1, 1), 8);
        Due.is("its states", flat.year(1, 1, 0), 1);
    }

    private static void keepAndBack() {
        PuddleStates p = Due.laid("s2,2;w0,1;");
        Due.is("none is kept", p.back(), NO);
        Due.is("keep()", p.keep(), 1);
        p.rain(5);
        p.shine(1);
        p.stone(3, true);
        Due.is("keep()", p.keep(), 2);
        Due.is("the third", p.keep(), FULL);
        Due.is("keeping undoes nothing", p.count(7), 3);
        p.rain(9);
        p.stone(3, true);
        p.ring(0, 7);
        p.write('s');
        Due.is("back()", p.back(), 1);
        Due.is("count(8)", p.count(8), 1);
        Due.is("height", p.cell(3, 0), 4);
        Due.is("drops", p.count(4), 17);
        Due.is("hours", p.count(5), 1);
        Due.is("rings stay", p.count(6), 1);
        Due.is("the text stays", p.count(9), 11);
        Due.is("nothing can be undone", p.count(7), 0);
        Due.is("undo()", p.undo(), NO);
        p.rain(1);
        Due.is("kept by undo()", p.undo() + p.count(8), 1);
        Due.is("keep() again", p.keep(), 2);
        Due.is("back()", p.back(), 1);
        Due.is("back()", p.back(), 0);
        Due.drops("at first", p, 1, 0, 0, 0);
        Due.is("height", p.cell(3, 0), 5);
        Due.is("hours", p.count(5), 0);
        Due.is("none is left", p.back(), NO);
        Due.is("count(8)", p.count(8), 0);
    }

    private static void count() {
        PuddleStates p = Due.laid("s3,2;h0,20;h1,20;w0,3;k5,3;");
        p.ring(0, 0);
        p.ring(0, 0);
        p.rain(1);
        p.shine(2);
        p.rain(2);
        p.keep();
        int states = 0;
        int wet = 0;
        int drops = 0;
        for (int x = 0; x < 6; x++) {
            states += p.cell(x, 3) == x ? 1 : 0;
            wet += p.cell(x, 2) > 0 ? 1 : 0;
            drops += p.cell(x, 2);
        }
        int[] due = {6, 3, wet, states, drops, 2, 2, 3, 1, 27};
        for (int what = 0; what < 10; what++) {
            Due.is("count(" + what + ")", p.count(what), due[what]);
        }
        Due.is("count(10)", p.count(10), BAD);
        Due.is("count(-1)", p.count(-1), BAD);
    }

    private static void noArgumentThrows() {
        int[] odd = {Integer.MIN_VALUE, -5, -1, 0, 1, 19, 20, 35, 36, 37, 1 << 30, Integer.MAX_VALUE};
        for (int a : odd) {
            PuddleStates p = new PuddleStates();
            for (int b : odd) {
                int ahead = p.count(0);
                p.cell(a, b);
                p.behind(b, a, 0);
                p.behind(0, a, b);
                p.join(a, b);
                p.part(a, b);
                p.way(a, b);
                p.kerb(a, b, 1);
                p.kerb(0, a, b);
                p.ring(a, b);
                p.sky(a, b);
                p.sun(a, b, 5, 0);
                p.sun(0, 1, a, b);
                p.year(a, b, 0);
                p.year(1, a, b);
                p.stone(a, b > 0);
                p.boot(a);
                Due.is("a call came back", p.count(0), ahead);
            }
        }
    }
}
