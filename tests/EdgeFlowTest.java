/** FLOW and STATE (the second block of "Terms"), sentence by sentence, where a number or a case ends. */
final class EdgeFlowTest {
    private static final int NONE = PuddleStates.NONE;
    private static final int OPEN = 0, SHADE = 1, DRAIN = 2, PUMP = 4;
    /** Up, down, right, left of the cell in the middle of 3 rows of 3, in the order of the document. */
    private static final int[] SIDES = {1, 7, 5, 3};
    private static final int MIDDLE = 4;

    public static void main(String[] args) {
        lowerByTwo();
        drainLowerByOne();
        levelIsHeightAndDrops();
        ofSeveralTheLowest();
        ofLikeOnes();
        drainAmongOthers();
        besideKerbs();
        besideAtTheEdges();
        cellsInTheirOrder();
        oneDropARound();
        roundAfterRound();
        goneInADrain();
        sixtyDrops();
        states();
        Due.end("EdgeFlowTest");
    }

    /** Two cells that are beside each other alone: 0 with drops, 1 of a kind; below both is a kerb. */
    private static PuddleStates pair(int height, int drops, int kind, int heightThere, int dropsThere) {
        return Due.laid("s2,2;k2,3;k3,3;h0," + height + ";w0," + drops + ";k1," + kind + ";h1," + heightThere + ";w1,"
            + dropsThere + ";");
    }

    private static void lowerByTwo() {
        Due.sentence("goes into a CELL whose LEVEL is lower by 2 or more");
        for (int kind : new int[] {OPEN, SHADE, PUMP}) {
            Due.drops("higher by 1", pair(5, 1, kind, 7, 0), 1, 0, 0, 0);
            Due.drops("as high", pair(5, 1, kind, 6, 0), 1, 0, 0, 0);
            Due.drops("lower by 1", pair(5, 1, kind, 5, 0), 1, 0, 0, 0);
            Due.drops("lower by 2", pair(5, 1, kind, 4, 0), 0, 1, 0, 0);
            Due.drops("lower by 3", pair(5, 1, kind, 3, 0), 0, 1, 0, 0);
            Due.drops("lower by 20", pair(20, 1, kind, 1, 0), 0, 1, 0, 0);
            Due.drops("2 drops, lower by 2", pair(5, 2, kind, 5, 0), 1, 1, 0, 0);
            Due.drops("2 drops, lower by 3", pair(5, 2, kind, 4, 0), 1, 1, 0, 0);
            Due.drops("2 drops, lower by 4", pair(5, 2, kind, 3, 0), 0, 2, 0, 0);
        }
        Due.drops("a dry tower gives none", pair(20, 0, OPEN, 0, 0), 0, 0, 0, 0);
    }

    private static void drainLowerByOne() {
        Due.sentence("that of a DRAIN by 1 or more");
        Due.drops("a drain higher by 1", pair(5, 1, DRAIN, 7, 0), 1, 0, 0, 0);
        Due.drops("a drain as high", pair(5, 1, DRAIN, 6, 0), 1, 0, 0, 0);
        Due.drops("a drain lower by 1", pair(5, 1, DRAIN, 5, 0), 0, 0, 0, 0);
        Due.drops("a drain lower by 2", pair(5, 1, DRAIN, 4, 0), 0, 0, 0, 0);
        Due.drops("what stands above it goes", pair(5, 20, DRAIN, 20, 0), 15, 0, 0, 0);
        Due.drops("down to its height", pair(5, 20, DRAIN, 6, 0), 1, 0, 0, 0);
        Due.drops("all goes", pair(5, 20, DRAIN, 5, 0), 0, 0, 0, 0);
        Due.drops("one is left", pair(0, 20, DRAIN, 1, 0), 1, 0, 0, 0);
    }

    private static void levelIsHeightAndDrops() {
        Due.sentence("The LEVEL of a CELL is its height and its drops");
        Due.drops("drops there count", pair(5, 3, OPEN, 5, 2), 3, 2, 0, 0);
        Due.drops("drops there, lower by 2", pair(5, 3, OPEN, 5, 1), 2, 2, 0, 0);
        Due.drops("height there counts", pair(5, 3, OPEN, 7, 0), 3, 0, 0, 0);
        Due.drops("height here counts", pair(6, 1, OPEN, 5, 0), 0, 1, 0, 0);
        Due.drops("from the lower cell with more drops", pair(2, 8, OPEN, 7, 2), 8, 2, 0, 0);
        Due.drops("from the higher cell with fewer", pair(2, 2, OPEN, 7, 1), 3, 0, 0, 0);
    }

    /** 3 rows of 3 with corners that none goes up to; a drop in the middle, on level 9. */
    private static String middle(int up, int down, int right, int left) {
        return "s3,3;h0,20;h2,20;h6,20;h8,20;h4,8;w4,1;h1," + up + ";h7," + down + ";h5," + right + ";h3," + left + ";";
    }

    private static void goesTo(String text, int cell) {
        PuddleStates p = Due.laid(text);
        for (int x = 0; x < 9; x++) {
            Due.is(text + ": drops of " + x, p.cell(x, 2), x == cell ? 1 : 0);
        }
    }

    private static void ofSeveralTheLowest() {
        Due.sentence("of several into that of lowest LEVEL");
        int[] order = {0, 1, 2, 3};
        for (int a : order) {
            for (int b : order) {
                int[] heights = {7, 7, 7, 7};
                heights[b] = 6;
                heights[a] = 5;
                goesTo(middle(heights[0], heights[1], heights[2], heights[3]), SIDES[a]);
            }
        }
        goesTo(middle(4, 3, 2, 1), 3);
        goesTo(middle(1, 2, 3, 4), 1);
        goesTo(middle(8, 8, 8, 8), MIDDLE);
    }

    private static void ofLikeOnes() {
        Due.sentence("of like ones up, then down, right, left");
        for (int open = 0; open < 16; open++) {
            int[] heights = new int[4];
            int first = MIDDLE;
            for (int side = 3; side >= 0; side--) {
                heights[side] = (open >> side & 1) == 1 ? 6 : 20;
                first = (open >> side & 1) == 1 ? SIDES[side] : first;
            }
            goesTo(middle(heights[0], heights[1], heights[2], heights[3]), first);
        }
        // Like ones by LEVEL, not by height: 6 and 1 drop is no more than 7.
        goesToBoth(1, 7, 1);
        goesToBoth(7, 1, 1);
        goesToBoth(3, 5, 5);
        goesToBoth(5, 3, 5);
    }

    /** One side is 7 high and dry, another 6 and wet. */
    private static void goesToBoth(int dry, int wet, int due) {
        String text = "s3,3;h0,20;h2,20;h6,20;h8,20;h1,20;h3,20;h5,20;h7,20;h4,8;w4,1;h" + dry + ",7;h" + wet + ",6;w"
            + wet + ",1;";
        PuddleStates p = Due.laid(text);
        Due.is(text + ": drops of " + dry, p.cell(dry, 2), due == dry ? 1 : 0);
        Due.is(text + ": drops of " + wet, p.cell(wet, 2), due == wet ? 2 : 1);
    }

    private static void drainAmongOthers() {
        Due.sentence("a DRAIN among several: the lowest, of like ones the first");
        for (int drain = 0; drain < 4; drain++) {
            for (int other = 0; other < 4; other++) {
                if (drain != other) {
                    int[] heights = {20, 20, 20, 20};
                    heights[other] = 7;
                    heights[drain] = 8;
                    goesTo(withDrain(heights, drain), SIDES[other]);
                    heights[drain] = 6;
                    goesTo(withDrain(heights, drain), NONE);
                    heights[drain] = 7;
                    goesTo(withDrain(heights, drain), drain < other ? NONE : SIDES[other]);
                    // The other one is lower by 1 alone: no way for the drop.
                    heights[drain] = 8;
                    heights[other] = 8;
                    goesTo(withDrain(heights, drain), NONE);
                }
            }
        }
    }

    private static String withDrain(int[] heights, int drain) {
        return middle(heights[0], heights[1], heights[2], heights[3]) + "k" + SIDES[drain] + ",2;";
    }

    private static void besideKerbs() {
        Due.sentence("BESIDE are CELLS up, down, right, left, but KERBS");
        for (int kerbs = 0; kerbs < 16; kerbs++) {
            StringBuilder text = new StringBuilder(middle(4, 3, 2, 1));
            int to = MIDDLE;
            for (int side = 0; side < 4; side++) {
                if ((kerbs >> side & 1) == 1) {
                    text.append("k").append(SIDES[side]).append(",3;");
                } else {
                    to = SIDES[side];
                }
            }
            goesTo(text.toString(), to);
        }
        Due.drops("not by a corner", Due.laid("s2,2;w0,9;k1,3;k2,3;h3,0;"), 9, 0, 0, 0);
        Due.drops("not over a kerb", Due.laid("s2,3;w0,9;k1,3;k3,3;k4,3;h2,0;"), 9, 0, 0, 0, 0, 0);
    }

    private static void besideAtTheEdges() {
        Due.sentence("BESIDE ends where the square ends, on each side");
        Due.drops("not from a row's end to the next row", Due.laid("s2,3;w2,5;h3,0;k1,3;k5,3;"), 0, 0, 5, 0, 0, 0);
        Due.drops("not from a row's start to the row ahead", Due.laid("s2,3;w3,5;h2,0;k0,3;k4,3;"), 0, 0, 0, 5, 0, 0);
        Due.drops("not from the last row to the first", Due.laid("s3,2;w4,5;h0,0;k5,3;k2,3;"), 0, 0, 0, 0, 5, 0);
        Due.drops("not from the first row to the last", Due.laid("s3,2;w0,5;h4,0;k1,3;k2,3;"), 5, 0, 0, 0, 0, 0);
        // Each corner of the largest square has two beside it.
        int[][] corners = {{0, 6, 1}, {5, 11, 4}, {30, 24, 31}, {35, 29, 34}};
        for (int[] c : corners) {
            PuddleStates p = Due.laid("s6,6;h" + c[0] + ",6;w" + c[0] + ",2;");
            Due.is("from corner " + c[0], p.cell(c[0], 2), 0);
            Due.is("into " + c[1], p.cell(c[1], 2), 1);
            Due.is("into " + c[2], p.cell(c[2], 2), 1);
        }
    }

    private static void cellsInTheirOrder() {
        Due.sentence("CELLS, 0 first, each by how all are then");
        // Cells 0 and 2 would both go into 1; 0 is first, and then 1 is too high for 2.
        Due.drops("0 ahead of 2", Due.laid("s2,3;k3,3;k4,3;k5,3;w0,1;w2,1;h0,1;h1,0;h2,1;"), 0, 1, 1, 0, 0, 0);
        Due.drops("by columns, too", Due.laid("s3,2;k1,3;k3,3;k5,3;w0,1;w4,1;h0,1;h2,0;h4,1;"), 0, 0, 1, 0, 1, 0);
        // Cell 1 gives its drop on in the round in which it came, so cell 0 finds it dry, and lower than 3, once more.
        Due.drops("a drop that came goes on", Due.laid("s2,3;k4,3;k5,3;h0,9;w0,2;h1,4;h2,2;h3,5;"), 0, 0, 2, 0, 0, 0);
        // Were all to go by how they were ahead of the round, 0 and 3 would both go into 2.
        Due.drops("two beside one pit", Due.laid("s2,2;k1,3;h0,5;h2,4;h3,5;w0,1;w3,1;"), 0, 0, 1, 1);
    }

    private static void oneDropARound() {
        Due.sentence("from each that has drops one goes");
        // 3 drops over the edge: the first goes down, the second right, as down is higher by then, the third down.
        Due.drops("one by one", Due.laid("s2,2;h0,9;h3,20;w0,3;"), 0, 1, 2, 0);
        Due.drops("four", Due.laid("s2,2;h0,9;h3,20;w0,4;"), 0, 2, 2, 0);
    }

    private static void roundAfterRound() {
        Due.sentence("round after round, till in one none goes");
        // Against the order of the cells a drop goes one cell on in each round.
        Due.drops("up the row", Due.laid("s2,6;h0,0;h1,1;h2,2;h3,3;h4,4;h5,5;" + kerbs(6, 11) + "w5,1;"),
            1, 0, 0, 0, 0, 0, 0, 0, 0, 0, 0, 0);
        Due.drops("along the row", Due.laid("s2,6;h0,9;h1,8;h2,7;h3,6;h4,5;h5,4;" + kerbs(6, 11) + "w0,1;"),
            0, 0, 0, 0, 0, 1, 0, 0, 0, 0, 0, 0);
        // Even steps of 1 stay: 20 drops run out into a slope.
        Due.drops("into a slope", Due.laid("s2,6;" + kerbs(6, 11) + "w5,20;"), 1, 2, 3, 4, 5, 5, 0, 0, 0, 0, 0, 0);
        PuddleStates late = Due.laid("s6,6;h35,20;w35,20;h0,0;h1,1;h2,2;h3,3;h4,4;");
        Due.is("20 drops, none is lost", late.count(4), 20);
        Due.is("none stays on the tower", late.cell(35, 2), 0);
        // One way out for 34 cells, a drop a round: 1020 rounds for a rain of 30.
        PuddleStates out = Due.laid("s6,6;k34,3;k35,2;");
        for (int i = 0; i < 3; i++) {
            out.rain(9);
            Due.is("none stays beside the drain", out.cell(29, 2), 0);
        }
        out.ring(29, 0);
        Due.is("by no rain one stays beside it", out.rains(), Integer.MAX_VALUE);
        fullAgain();
    }

    /** A pool that holds all that it can is the same again behind each rain, but only when the last drop has run out. */
    private static void fullAgain() {
        PuddleStates full = Due.laid("s6,6;k34,3;k35,2;");
        for (int i = 0; i < 20; i++) {
            full.rain(9);
        }
        for (int x = 0; x < 36; x++) {
            full.forget();
            full.ring(x, full.cell(x, 2));
            Due.is("cell " + x + " of a full pool is as it was by each rain", full.rains(), Integer.MAX_VALUE);
        }
    }

    private static String kerbs(int from, int to) {
        StringBuilder text = new StringBuilder();
        for (int x = from; x <= to; x++) {
            text.append('k').append(x).append(",3;");
        }
        return text.toString();
    }

    private static void goneInADrain() {
        Due.sentence("a drop that goes into a DRAIN is gone");
        PuddleStates p = Due.laid("s2,3;k2,2;h2,0;w0,20;w1,20;w3,20;w4,20;w5,20;");
        Due.is("drops of the drain", p.cell(2, 2), 0);
        Due.is("cell 1 beside it", p.cell(1, 2), 0);
        Due.is("cell 5 beside it", p.cell(5, 2), 0);
        Due.is("the drain has no state", p.cell(2, 3), NONE);
        Due.is("nor a cell", p.cell(2, 4), 0);
        Due.is("nor a depth", p.cell(2, 5), 0);
        // However much went in, its level stays its height: it takes one more, and gives none.
        for (int i = 0; i < 20; i++) {
            p.rain(9);
        }
        Due.is("still none", p.cell(2, 2), 0);
        Due.is("still none beside it", p.cell(1, 2) + p.cell(5, 2), 0);
    }

    private static void sixtyDrops() {
        Due.sentence("No CELL has more than 60 drops: one more is gone (by FLOW)");
        // Cell 0 lies 20 below cell 1: 60 drops there are level with 40 here.
        PuddleStates p = Due.laid("s2,2;k2,3;k3,3;h0,0;h1,20;w0,20;w1,20;");
        Due.drops("30 and 10", p, 30, 10, 0, 0);
        for (int i = 0; i < 3; i++) {
            p.rain(9);
        }
        Due.is("rain(2)", p.rain(2), 98);
        Due.drops("59 and 39", p, 59, 39, 0, 0);
        Due.is("rain(1): level 60 and 60", p.rain(1), 100);
        Due.drops("60 and 40", p, 60, 40, 0, 0);
        Due.is("one more here: level by 1, it stays", p.rain(1), 101);
        Due.drops("60 and 41", p, 60, 41, 0, 0);
        Due.is("and one: it flows, and is gone", p.rain(1), 101);
        Due.drops("60 and 41 again", p, 60, 41, 0, 0);
        Due.is("nine: all but one are gone", p.rain(9), 101);
        // The last one that has room, and the one behind it, in one flow.
        PuddleStates q = Due.laid("s2,2;k2,3;k3,3;h0,0;h1,20;");
        for (int i = 0; i < 4; i++) {
            q.rain(9);
        }
        q.rain(8);
        Due.drops("54 and 34", q, 54, 34, 0, 0);
        Due.is("rain(9)", q.rain(9), 101);
        Due.drops("60 and 41", q, 60, 41, 0, 0);
    }

    private static void states() {
        Due.sentence("A STATE is CELLS that have drops, BESIDE each other, all that hang together so");
        stateIs("s2,2;", "1111", "0000");
        stateIs("s2,2;", "1001", "0..3");
        stateIs("s2,2;", "0110", ".12.");
        stateIs("s2,2;", "0000", "....");
        stateIs("s2,2;", "0001", "...3");
        stateIs("s2,3;", "001100", "..23..");
        stateIs("s2,3;", "101111", "0.0000");
        stateIs("s3,3;", "111101111", "0000.0000");
        stateIs("s3,3;", "101010101", "0.2.4.6.8");
        stateIs("s3,3;", "010111010", ".1.111.1.");
        // Round a spiral: the lowest cell is found last.
        stateIs("s3,3;", "011001111", ".11..1111");
        stateIs("s3,3;", "001101111", "..22.2222");
        Due.sentence("it is called by its lowest CELL");
        stateIs("s4,3;", "001001001111", "..2..2..2222");
        stateIs("s4,3;", "100101101111", "0..0.00.0000");
        Due.sentence("DEPTH: the most drops of any of its CELLS; 0");
        PuddleStates p = Due.laid("s2,3;h0,5;h1,3;h2,4;k3,3;k4,3;k5,3;w1,3;w0,1;w2,2;");
        Due.drops("a pit", p, 1, 3, 2, 0, 0, 0);
        Due.is("depth by its first", p.cell(0, 5), 3);
        Due.is("depth by its last", p.cell(2, 5), 3);
        Due.is("depth of a kerb", p.cell(3, 5), 0);
    }

    /** One drop (or none) in each cell: level by 1 or by none, so nothing flows; each cell's state, '.' for none. */
    private static void stateIs(String square, String drops, String due) {
        StringBuilder text = new StringBuilder(square);
        for (int x = 0; x < drops.length(); x++) {
            if (drops.charAt(x) == '1') {
                text.append('w').append(x).append(",1;");
            }
        }
        PuddleStates p = Due.laid(text.toString());
        StringBuilder names = new StringBuilder();
        for (int x = 0; x < drops.length(); x++) {
            int state = p.cell(x, 3);
            names.append(state == NONE ? "." : "" + state);
            Due.is("cells and drops agree", state == NONE ? 0 : 1, drops.charAt(x) - '0');
        }
        Due.is("states of " + text + " are " + names + ", due are " + due, names.toString().equals(due) ? 1 : 0, 1);
        Due.is("how many", p.count(3), due.chars().filter(c -> c != '.').distinct().count());
    }
}
