/** Promises 18 to 21: rings and the rains by which they would be so, shares of the sky. */
final class RingTest {
    private static final int BAD = PuddleStates.BAD, FULL = PuddleStates.FULL, NONE = PuddleStates.NONE;

    public static void main(String[] args) {
        ring();
        forget();
        rains();
        rainsByNow();
        sky();
        Due.end("RingTest");
    }

    private static void ring() {
        PuddleStates p = Due.laid("s2,2;");
        int[][] wrong = {{4, 0}, {-1, 0}, {0, 61}, {0, -1}, {Integer.MAX_VALUE, 0}, {0, Integer.MIN_VALUE}};
        for (int[] w : wrong) {
            Due.is("ring(" + w[0] + ", " + w[1] + ")", p.ring(w[0], w[1]), BAD);
        }
        Due.is("no ring", p.count(6), 0);
        Due.is("ring(0, 0)", p.ring(0, 0), 1);
        Due.is("ring(3, 60)", p.ring(3, 60), 2);
        for (int i = 3; i <= 6; i++) {
            Due.is("alike ones, too", p.ring(0, 0), i);
        }
        Due.is("the seventh", p.ring(0, 0), FULL);
        Due.is("BAD ahead of FULL", p.ring(4, 0), BAD);
        Due.is("BAD ahead of FULL", p.ring(0, 61), BAD);
        Due.is("count(6)", p.count(6), 6);
    }

    private static void forget() {
        PuddleStates p = Due.laid("s2,2;");
        Due.is("none", p.forget(), 0);
        p.ring(0, 1);
        p.ring(1, 2);
        Due.is("rains()", p.rains(), 0);
        Due.is("forget()", p.forget(), 2);
        Due.is("count(6)", p.count(6), 0);
        Due.is("rains()", p.rains(), Integer.MAX_VALUE);
        Due.is("the first again", p.ring(0, 3), 1);
        Due.is("rains()", p.rains(), 8);
    }

    private static void rains() {
        PuddleStates p = Due.laid("s2,2;");
        Due.is("no rings", p.rains(), Integer.MAX_VALUE);
        for (int v = 0; v <= 31; v++) {
            p.forget();
            p.ring(2, v);
            Due.is("a ring of " + v, p.rains(), v <= 30 ? 1 << v : 0);
        }
        p.forget();
        p.ring(0, 4);
        p.ring(1, 4);
        Due.is("two alike", p.rains(), 16);
        p.ring(2, 5);
        Due.is("three, one not so", p.rains(), 0);
        PuddleStates drain = Due.laid("s2,2;k1,2;h1,9;k2,3;k3,3;");
        drain.ring(0, 4);
        Due.is("by all from 4 on", drain.rains(), Integer.MAX_VALUE - 15);
        drain.ring(1, 0);
        drain.ring(2, 0);
        Due.is("a drain, a kerb are dry by all", drain.rains(), Integer.MAX_VALUE - 15);
        drain.ring(1, 1);
        Due.is("and never wet", drain.rains(), 0);
        PuddleStates full = Due.laid("s2,2;w0,20;w1,20;w2,20;w3,20;");
        full.rain(9);
        full.rain(9);
        full.ring(0, 60);
        Due.is("from 22 to 30 all are full", full.rains(), Integer.MAX_VALUE - ((1 << 22) - 1));
    }

    private static void rainsByNow() {
        PuddleStates p = Due.laid("s2,2;");
        p.ring(0, 5);
        Due.is("from dry", p.rains(), 32);
        p.rain(2);
        Due.is("from 2 on", p.rains(), 8);
        p.rain(3);
        Due.is("as it is", p.rains(), 1);
        p.rain(1);
        Due.is("too many", p.rains(), 0);
        p.undo();
        Due.is("as it was", p.rains(), 1);
        Due.is("nothing changes", p.count(4), 20);
        p.keep();
        p.shine(1);
        p.ring(1, 5);
        p.back();
        Due.is("rings stay by back()", p.count(6), 2);
        Due.is("both are so", p.rains(), 1);
    }

    private static void sky() {
        PuddleStates p = Due.laid("s2,4;h2,20;h6,20;h7,6;w0,4;w3,1;k4,3;");
        Due.drops("3 and 1", p, 2, 1, 0, 1, 0, 1, 0, 0);
        int[][] due = {{3, 4}, {3, 4}, {NONE, NONE}, {1, 4}, {NONE, NONE}, {3, 4}, {NONE, NONE}, {NONE, NONE}};
        for (int x = 0; x < 8; x++) {
            for (int part = 0; part < 2; part++) {
                Due.is("sky(" + x + ", " + part + ")", p.sky(x, part), due[x][part]);
            }
        }
        Due.is("sky(0, 2)", p.sky(0, 2), BAD);
        Due.is("sky(0, -1)", p.sky(0, -1), BAD);
        Due.is("sky(8, 0)", p.sky(8, 0), BAD);
        Due.is("sky(-1, 0)", p.sky(-1, 0), BAD);
        Due.is("BAD ahead of NONE", p.sky(2, 2), BAD);
        PuddleStates halves = Due.laid("s2,6;h2,20;h3,20;h8,20;h9,20;w0,4;w1,4;w6,4;w7,4;w4,4;w5,4;w10,4;w11,4;");
        Due.is("4 of 8, above", halves.sky(0, 0), 1);
        Due.is("4 of 8, below", halves.sky(11, 1), 2);
        PuddleStates all = Due.laid("s3,3;");
        all.rain(1);
        Due.is("all, above", all.sky(4, 0), 1);
        Due.is("all, below", all.sky(4, 1), 1);
    }
}
