/** Promises 1 to 6: a new object, the text, its fault, the square that is laid, its cells; and how water flows. */
final class SquareTest {
    private static final int BAD = PuddleStates.BAD, NO = PuddleStates.NO;
    private static final int FULL = PuddleStates.FULL, NONE = PuddleStates.NONE;

    public static void main(String[] args) {
        newObject();
        write();
        wipe();
        faults();
        lay();
        layStartsAnew();
        badTextChangesNothing();
        cell();
        flowOrder();
        flowLevels();
        Due.end("SquareTest");
    }

    private static void newObject() {
        PuddleStates p = new PuddleStates();
        int[] counts = {20, 4, 3, 1, 3, 0, 0, 0, 0, 0};
        for (int what = 0; what < counts.length; what++) {
            Due.is("new: count(" + what + ")", p.count(what), counts[what]);
        }
        int[] heights = {5, 5, 5, 4, 5, 5, 2, 3, 6, 5, 5, 1, 2, 5, 5, 5, 5, 3, 5, 5};
        int[] kinds = {0, 0, 0, 0, 1, 0, 0, 0, 0, 3, 0, 4, 0, 0, 0, 0, 0, 0, 0, 2};
        for (int x = 0; x < 20; x++) {
            Due.is("new: height of " + x, p.cell(x, 0), heights[x]);
            Due.is("new: kind of " + x, p.cell(x, 1), kinds[x]);
        }
        Due.drops("new", p, 0, 0, 0, 0, 0, 0, 1, 0, 0, 0, 0, 1, 1, 0, 0, 0, 0, 0, 0, 0);
        Due.is("new: lay()", p.lay(), NO);
        Due.is("new: undo()", p.undo(), NO);
        Due.is("new: back()", p.back(), NO);
        Due.is("new: wipe()", p.wipe(), 0);
    }

    private static void write() {
        PuddleStates p = new PuddleStates();
        int[] wrongLetters = {31, 127, 0, -1, 115 + 256, 115 + 65536, Integer.MIN_VALUE, Integer.MAX_VALUE};
        for (int letter : wrongLetters) {
            Due.is("write(" + letter + ")", p.write(letter), BAD);
        }
        Due.is("nothing written", p.count(9), 0);
        Due.is("write(32)", p.write(32), 1);
        Due.is("write(126)", p.write(126), 2);
        for (int i = 3; i <= 200; i++) {
            Due.is("letter " + i, p.write('h'), i);
        }
        Due.is("letter 201", p.write('h'), FULL);
        Due.is("BAD ahead of FULL", p.write(127), BAD);
        Due.is("BAD ahead of FULL", p.write(31), BAD);
        Due.is("count(9)", p.count(9), 200);
    }

    private static void wipe() {
        PuddleStates p = Due.withText("s2,2;w0,");
        Due.is("wipe()", p.wipe(), 8);
        Due.is("count(9)", p.count(9), 0);
        Due.is("wipe() again", p.wipe(), 0);
        Due.is("no fault in an empty text", p.fault(), NONE);
        Due.is("the square stays", p.count(0), 20);
        Due.is("a letter behind it", p.write('s'), 1);
    }

    private static void fault(String text, int due) {
        PuddleStates p = Due.withText(text);
        Due.is("fault() of '" + text + "'", p.fault(), due);
        Due.is("and again", p.fault(), due);
        Due.is("the text stays", p.count(9), text.length());
        Due.is("the square stays", p.count(0), 20);
        Due.is("lay() of '" + text + "'", p.lay() == NO ? 1 : 0, due == NONE && !text.isEmpty() ? 0 : 1);
    }

    private static void faults() {
        String[] sound = {"", "s2,2;", "s6,6;", "s2,6;s6,2;s3,3;", "s02,06;", "h0,0;", "h19,20;", "h00,00;",
            "s6,6;h35,1;", "s2,2;h3,1;", "k0,0;k1,1;k2,2;k3,3;k4,4;", "w0,0;w19,20;", "h1,2;h1,3;", "w0,5;k0,3;h0,9;"};
        for (String text : sound) {
            fault(text, NONE);
        }
        String[] wrongAtOnce = {" ", ";", "x", "s", "s2", "s2,", "s2,2", "s2;", "s2,2,2;", "s,2;", "s2,;", "s1,2;",
            "s2,1;", "s7,2;", "s2,7;", "s22,2;", "s002,2;", "s2,002;", "S2,2;", "s2.2;", "s 2,2;", "s2,2 ;", "s-2,2;",
            "h20,1;", "h0,21;", "h0,99;", "h99,1;", "h000,1;", "h0,001;", "h0,1:", "h0;1;", "k0,5;", "k20,0;",
            "k0,10;", "w0,21;", "w20,0;", "w0,1", "0,1;", "a0,1;", "hh0,1;", "h0,1,;", "h0,,1;", "hs2,2;", "/0,1;"};
        for (String text : wrongAtOnce) {
            fault(text, 0);
        }
        fault("s2,2;h4,1;", 5);
        fault("s2,2;h3,1;h4,1;", 10);
        fault("s2,3;s2,2;k4,1;", 10);
        fault("h0,1;s2,2;", 5);
        fault("s2,2;h0,1;s3,3;", 10);
        fault("w19,20;w19,21;", 7);
        fault("w19,20;;", 7);
        fault("w19,20; ", 7);
        fault("w19,20;h", 7);
        fault("s6,6;h36,0;h1,99;", 5);
        fault("h1,2;k1,5;h1,99;", 5);
        fault("h1,2;h/,5;", 5);
        fault("h1,2;h:,5;", 5);
        StringBuilder longest = new StringBuilder();
        for (int i = 0; i < 40; i++) {
            longest.append("h1,2;");
        }
        fault(longest.toString(), NONE);
        longest.setCharAt(199, ',');
        fault(longest.toString(), 195);
    }

    private static void lay() {
        PuddleStates p = Due.laid("s2,3;s3,2;h0,9;h0,7;k1,2;k1,1;w0,3;w0,1;h5,20;h4,00;");
        Due.is("cells", p.count(0), 6);
        Due.is("rows", p.count(1), 3);
        int[] heights = {7, 5, 5, 5, 0, 20};
        for (int x = 0; x < heights.length; x++) {
            Due.is("height of " + x, p.cell(x, 0), heights[x]);
        }
        Due.is("the last kind counts", p.cell(1, 1), 1);
        // The drop runs 0 (up on level 8) to 2 (5, as the first of like ones) and on to 4 (0).
        Due.drops("the last drops count, then they flow", p, 0, 0, 0, 0, 1, 0);
        Due.is("the text stays", p.count(9), 52);
        Due.is("laid again", p.lay(), 6);

        Due.drops("no drops in a drain, a kerb", Due.laid("s2,2;w0,5;w1,5;k0,2;k1,3;k2,2;k3,3;w2,5;w3,5;"), 0, 0, 0, 0);
        Due.drops("a kind told back", Due.laid("s2,2;k0,3;w0,1;k0,0;"), 1, 0, 0, 0);
        Due.drops("no drops in a kerb at the first place", Due.laid("s2,2;w0,5;k0,3;h1,20;h2,20;"), 0, 0, 0, 0);
        PuddleStates again = Due.laid("s2,2;k0,4;h0,9;w1,9;");
        again.wipe();
        for (char letter : "h1,6;".toCharArray()) {
            again.write(letter);
        }
        Due.is("nothing stays of the text before", again.lay(), 20);
        Due.is("kind", again.cell(0, 1), 0);
        Due.is("height", again.cell(0, 0), 5);
        Due.is("drops", again.count(4), 0);
        PuddleStates first = Due.laid("h0,5;");
        Due.is("without s: cells", first.count(0), 20);
        Due.is("without s: rows", first.count(1), 4);
        Due.is("without h", first.cell(6, 0), 5);
        Due.is("without k", first.cell(9, 1), 0);
        Due.is("without w", first.count(4), 0);
        Due.is("s6,6;", Due.laid("s6,6;").lay(), 36);
        Due.is("s2,2;", Due.laid("s2,2;").lay(), 4);
        Due.is("rows of s2,6;", Due.laid("s2,6;").count(1), 2);
    }

    private static void layStartsAnew() {
        PuddleStates p = Due.laid("s2,2;k0,1;w0,9;");
        p.rain(1);
        p.shine(3);
        p.ring(0, 1);
        p.keep();
        p.keep();
        p.behind(7, 0, 0);
        Due.is("lay()", p.lay(), 4);
        for (int what = 5; what <= 8; what++) {
            Due.is("laid anew: count(" + what + ")", p.count(what), 0);
        }
        Due.is("undo()", p.undo(), NO);
        Due.is("back()", p.back(), NO);
        Due.is("rains()", p.rains(), Integer.MAX_VALUE);
        Due.is("drops", p.count(4), 9);
    }

    private static void badTextChangesNothing() {
        PuddleStates p = new PuddleStates();
        p.rain(2);
        p.shine(1);
        p.ring(6, 1);
        p.keep();
        int drops = p.count(4);
        for (char letter : "s2,2;w0,9;w0,99;".toCharArray()) {
            p.write(letter);
        }
        Due.is("fault()", p.fault(), 10);
        Due.is("lay()", p.lay(), NO);
        int[] counts = {20, 4, p.count(2), p.count(3), drops, 1, 1, 2, 1, 16};
        for (int what = 0; what < counts.length; what++) {
            Due.is("behind NO: count(" + what + ")", p.count(what), counts[what]);
        }
        Due.is("kind stays", p.cell(9, 1), 3);
        Due.is("kerb stays", p.kerb(0, 9, 9), 100);
        Due.is("undo()", p.undo(), 1);
    }

    private static void cell() {
        PuddleStates p = Due.laid("s2,4;h2,20;h6,20;w0,4;w3,5;k1,1;k4,3;");
        // Cells 0, 1, 5 are one state and 3, 7 another, with a wall of stone in 2, 6; 4 is a kerb.
        Due.drops("two states", p, 2, 1, 0, 3, 0, 1, 0, 2);
        int[][] due = {{5, 0, 2, 0, 3, 2}, {5, 1, 1, 0, 3, 2}, {20, 0, 0, NONE, 0, 0}, {5, 0, 3, 3, 2, 3},
            {5, 3, 0, NONE, 0, 0}, {5, 0, 1, 0, 3, 2}, {20, 0, 0, NONE, 0, 0}, {5, 0, 2, 3, 2, 3}};
        for (int x = 0; x < due.length; x++) {
            for (int what = 0; what < 6; what++) {
                Due.is("cell(" + x + ", " + what + ")", p.cell(x, what), due[x][what]);
            }
        }
        Due.is("states", p.count(3), 2);
        Due.is("wet cells", p.count(2), 5);
        Due.is("cell(8, 0)", p.cell(8, 0), BAD);
        Due.is("cell(-1, 0)", p.cell(-1, 0), BAD);
        Due.is("cell(0, 6)", p.cell(0, 6), BAD);
        Due.is("cell(0, -1)", p.cell(0, -1), BAD);
        PuddleStates round = Due.laid("s2,3;h1,20;w0,2;w2,1;w3,2;w4,2;w5,1;");
        Due.is("a state round a stone", round.count(3), 1);
        Due.is("its name", round.cell(2, 3), 0);
        Due.is("its cells", round.cell(2, 4), 5);
        Due.is("corner to corner is not beside", Due.laid("s2,2;h1,9;h2,9;w0,1;w3,1;").count(3), 2);
        Due.is("a row's end is not beside the next row", Due.laid("s2,3;h0,9;h1,9;h4,9;h5,9;w2,1;w3,1;").count(3), 2);
    }

    private static void flowOrder() {
        Due.drops("up ahead of down", Due.laid("s3,2;h2,9;h3,20;w2,1;"), 1, 0, 0, 0, 0, 0);
        Due.drops("down ahead of right", Due.laid("s2,2;h0,9;w0,1;"), 0, 0, 1, 0);
        Due.drops("right ahead of left", Due.laid("s2,3;h1,9;h4,20;w1,1;"), 0, 0, 1, 0, 0, 0);
        Due.drops("the lowest ahead of all", Due.laid("s2,3;h1,9;h4,20;h0,4;w1,1;"), 1, 0, 0, 0, 0, 0);
        // Cell 0 goes first, so cell 3 finds cell 1 too high by then.
        Due.drops("each by how all are then", Due.laid("s2,2;h0,1;h1,0;h2,20;h3,1;w0,1;w3,1;"), 0, 1, 0, 1);
        // Cell 1 gives the drop on in the same round in which it comes, before cell 0 gives the second.
        Due.drops("a drop may go on in its round", Due.laid("s2,3;h0,4;h1,2;h2,0;h3,20;h4,20;h5,20;w0,1;"),
            0, 0, 1, 0, 0, 0);
        // One drop a cell and round: 3 drops of cell 0 go down, right, down.
        Due.drops("one drop a round", Due.laid("s2,2;h0,9;h3,20;w0,3;"), 0, 1, 2, 0);
    }

    private static void flowLevels() {
        Due.drops("lower by 1: stays", Due.laid("s2,2;w0,1;"), 1, 0, 0, 0);
        Due.drops("lower by 2: goes", Due.laid("s2,2;w0,2;"), 1, 0, 1, 0);
        Due.drops("a drain lower by 1", Due.laid("s2,2;w0,1;k1,2;"), 0, 0, 0, 0);
        Due.drops("a drain as high", Due.laid("s2,2;w0,1;h1,6;k1,2;"), 1, 0, 0, 0);
        Due.drops("a drain higher than the lowest", Due.laid("s2,2;w0,1;k1,2;h2,4;"), 0, 0, 1, 0);
        Due.drops("a drain like the lowest, behind it", Due.laid("s2,2;h0,6;w0,1;k1,2;"), 0, 0, 1, 0);
        Due.drops("a drain like the lowest, ahead of it", Due.laid("s2,2;h0,6;w0,1;k2,2;"), 0, 0, 0, 0);
        Due.drops("no drop into a kerb", Due.laid("s2,2;w0,9;k1,3;h1,0;k2,3;h2,0;"), 9, 0, 0, 0);
        Due.drops("shade and pump are like open ones", Due.laid("s2,2;w0,2;k2,4;h1,20;"), 1, 0, 1, 0);
        // 60 drops stand level with 60; what comes down from a level of 62 or more is gone.
        PuddleStates full = Due.laid("s2,2;h0,0;h1,20;h2,20;h3,20;w0,20;");
        for (int i = 0; i < 12; i++) {
            full.rain(9);
        }
        Due.drops("no more than 60", full, 60, 41, 41, 42);
        Due.drops("a deep one", Due.laid("s2,2;h0,0;h1,20;h2,20;h3,20;k0,3;w1,2;w2,2;w3,2;"), 0, 2, 2, 2);
    }
}
