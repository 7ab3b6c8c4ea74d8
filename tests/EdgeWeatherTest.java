/** Promises 7 to 11 (RAIN, HOUR, BOOT, stone, UNDONE), sentence by sentence, where a number or a case ends. */
final class EdgeWeatherTest {
    private static final int BAD = PuddleStates.BAD, NO = PuddleStates.NO;
    /** Cell 0 of each kind, the other three are kerbs: nothing flows. */
    private static final String ALONE = "s2,2;k1,3;k2,3;k3,3;";
    private static final int[] FAR = {Integer.MIN_VALUE, Integer.MIN_VALUE + 1, -100, Integer.MAX_VALUE - 1,
        Integer.MAX_VALUE};

    public static void main(String[] args) {
        rainsOf();
        rainFallsOn();
        rainThenFlow();
        rainBeyondSixty();
        hoursOf();
        sunDries();
        shade();
        shadeByAllHours();
        pump();
        hoursEndInFlow();
        bootByDrops();
        bootsSides();
        bootBeside();
        bootThenFlow();
        bootRefused();
        stonesHeights();
        stoneThenFlow();
        stoneRefused();
        undoEach();
        undoNine();
        undoneBehindOthers();
        undoRefused();
        Due.end("EdgeWeatherTest");
    }

    private static void rainsOf() {
        Due.sentence("7: RAIN of k (1 to 9): how many drops there are in all; BAD");
        for (int k = 1; k <= 9; k++) {
            PuddleStates p = Due.laid("s2,3;w0,1;");
            Due.is("rain(" + k + ")", p.rain(k), 1 + 6 * k);
            Due.is("count(4)", p.count(4), 1 + 6 * k);
            Due.is("count(5)", p.count(5), 0);
            Due.is("count(7)", p.count(7), 1);
        }
        for (int k : new int[] {0, 10, -1, -9, 11, 30, 256 + 1, 65536 + 1}) {
            rainIsBad(k);
        }
        for (int k : FAR) {
            rainIsBad(k);
        }
    }

    private static void rainIsBad(int k) {
        Twins.unchanged("rain(" + k + ")", Stories::full, BAD, p -> p.rain(k));
        Twins.unchanged("rain(" + k + ") at first", Stories::nothing, BAD, p -> p.rain(k));
    }

    private static void rainFallsOn() {
        Due.sentence("each CELL that is no KERB, no DRAIN has k more");
        for (int kind = 0; kind <= 4; kind++) {
            PuddleStates p = Due.laid(ALONE + "k0," + kind + ";");
            int due = kind == 2 || kind == 3 ? 0 : 9;
            Due.is("rain(9) on kind " + kind, p.rain(9), due);
            Due.is("its drops", p.cell(0, 2), due);
            Due.is("a rain all the same", p.count(7), 1);
        }
        Due.is("36 cells", Due.laid("s6,6;").rain(1), 36);
        Due.is("on wet and dry ones", Due.laid("s2,2;w0,1;w3,1;").rain(2), 10);
    }

    private static void rainThenFlow() {
        Due.sentence("RAIN, then FLOW");
        PuddleStates p = Due.laid("s2,2;h0,9;h3,20;");
        Due.is("rain(1)", p.rain(1), 4);
        // Cell 0 (level 10) gives down; cell 1 (6) finds 0 no lower; cell 3 (21) gives up to 1, which is lower.
        Due.drops("behind it", p, 0, 2, 2, 0);
        // All k drops lie there ahead of the flow: six rains of 1 leave 5, 5, 5 and 9.
        PuddleStates once = Due.laid("s2,2;h2,4;h3,0;");
        Due.is("rain(6)", once.rain(6), 24);
        Due.drops("behind one rain of 6", once, 5, 4, 6, 9);
        PuddleStates drained = Due.laid("s2,2;k3,2;");
        Due.is("those that are gone are not counted", drained.rain(9), 1);
        Due.drops("above the drain's level by its other side alone", drained, 1, 0, 0, 0);
    }

    private static void rainBeyondSixty() {
        Due.sentence("No CELL has more than 60 drops: one more is gone (by RAIN)");
        PuddleStates p = Due.laid("s2,2;w0,20;w1,20;w2,20;w3,20;");
        for (int i = 1; i <= 4; i++) {
            Due.is("rain " + i, p.rain(9), 80 + 36 * i);
        }
        Due.is("59 in each", p.rain(3), 236);
        Due.is("the 60th", p.rain(1), 240);
        Due.is("the 61st", p.rain(1), 240);
        Due.is("the 69th", p.rain(9), 240);
        Due.is("a rain all the same", p.count(7), 8);
        p.undo();
        p.undo();
        p.undo();
        Due.is("59 and 2", p.rain(2), 240);
        p.undo();
        Due.is("59 and 9", p.rain(9), 240);
        p.undo();
        p.undo();
        Due.is("56 and 4", p.rain(4), 240);
        p.undo();
        Due.is("56 and 5", p.rain(5), 240);
        Due.drops("full", p, 60, 60, 60, 60);
    }

    private static void hoursOf() {
        Due.sentence("8: n HOURS (1 to 20): how many have gone by; BAD");
        for (int n = 1; n <= 20; n++) {
            PuddleStates p = Due.laid("s2,2;w0,20;w1,20;w2,20;w3,20;");
            Due.is("shine(" + n + ")", p.shine(n), n);
            Due.drops("behind it", p, 20 - n, 20 - n, 20 - n, 20 - n);
            Due.is("count(5)", p.count(5), n);
            Due.is("count(7)", p.count(7), 1);
            Due.is("and once more", p.shine(n), 2 * n);
            Due.is("and 20 more", p.shine(20), 2 * n + 20);
        }
        for (int n : new int[] {0, 21, -1, -20, 22, 40, 256 + 1}) {
            shineIsBad(n);
        }
        for (int n : FAR) {
            shineIsBad(n);
        }
    }

    private static void shineIsBad(int n) {
        Twins.unchanged("shine(" + n + ")", Stories::full, BAD, p -> p.shine(n));
        Twins.unchanged("shine(" + n + ") at first", Stories::nothing, BAD, p -> p.shine(n));
    }

    private static void sunDries() {
        Due.sentence("An HOUR: each CELL that has drops has 1 less");
        PuddleStates p = Due.laid("s2,2;k1,3;k2,3;w0,1;w3,2;");
        p.shine(1);
        Due.drops("one is dry", p, 0, 0, 0, 1);
        p.shine(1);
        Due.drops("both", p, 0, 0, 0, 0);
        p.shine(20);
        Due.drops("a dry one stays dry", p, 0, 0, 0, 0);
        Due.is("rain(1) finds none below", p.rain(1), 2);
    }

    private static void shade() {
        Due.sentence("in SHADE only in the second HOUR, the fourth, .. of all that go by");
        PuddleStates p = Due.laid(ALONE + "k0,1;w0,3;");
        int[] due = {3, 2, 2, 1, 1, 0, 0, 0};
        for (int hour = 1; hour <= due.length; hour++) {
            p.shine(1);
            Due.is("drops behind hour " + hour, p.cell(0, 2), due[hour - 1]);
        }
        int[] left = {20, 19, 19, 18, 18, 17, 17, 16, 16, 15, 15, 14, 14, 13, 13, 12, 12, 11, 11, 10};
        for (int n = 1; n <= 20; n++) {
            PuddleStates at = Due.laid(ALONE + "k0,1;w0,20;");
            at.shine(n);
            Due.is("drops behind shine(" + n + ")", at.cell(0, 2), left[n - 1]);
        }
        PuddleStates full = Due.laid(ALONE + "k0,1;w0,20;");
        for (int i = 0; i < 5; i++) {
            full.rain(9);
        }
        full.shine(1);
        Due.is("60 in the shade", full.cell(0, 2), 60);
        full.shine(1);
        Due.is("59 in the shade", full.cell(0, 2), 59);
    }

    private static void shadeByAllHours() {
        Due.sentence("of all that go by: behind what is undone, brought back, laid, too");
        PuddleStates p = Due.laid(ALONE + "k0,1;w0,9;");
        p.keep();
        p.shine(1);
        p.rain(1);
        p.shine(1);
        Due.is("the second hour, with rain between", p.cell(0, 2), 9);
        p.undo();
        p.undo();
        p.shine(1);
        Due.is("the second hour, the second time", p.cell(0, 2), 8);
        p.undo();
        p.undo();
        p.shine(1);
        Due.is("the first hour, the second time", p.cell(0, 2), 9);
        p.back();
        p.shine(1);
        Due.is("the first hour, the third time", p.cell(0, 2), 9);
        Due.is("shine(20), from an odd hour", p.shine(20), 21);
        Due.is("10 of them dry", p.cell(0, 2), 0);
        p.lay();
        p.shine(1);
        Due.is("the first hour, laid anew", p.cell(0, 2), 9);
        PuddleStates odd = Due.laid(ALONE + "k0,1;w0,20;");
        odd.shine(19);
        Due.is("19 hours: 9 of them dry", odd.cell(0, 2), 11);
        odd.shine(1);
        Due.is("the 20th dries", odd.cell(0, 2), 10);
        odd.shine(3);
        Due.is("of 21, 22, 23 the 22nd", odd.cell(0, 2), 9);
    }

    private static void pump() {
        Due.sentence("then each PUMP 1 more");
        PuddleStates p = Due.laid(ALONE + "k0,4;");
        p.shine(1);
        Due.is("a dry one has 1", p.cell(0, 2), 1);
        p.shine(1);
        Due.is("1 stays 1", p.cell(0, 2), 1);
        p.shine(20);
        Due.is("1 stays 1", p.cell(0, 2), 1);
        p.rain(1);
        p.shine(3);
        Due.is("2 stay 2", p.cell(0, 2), 2);
        for (int i = 0; i < 7; i++) {
            p.rain(9);
        }
        p.shine(1);
        Due.is("60 stay 60: first 1 less, then 1 more", p.cell(0, 2), 60);
        p.shine(20);
        Due.is("60 stay 60", p.cell(0, 2), 60);
        PuddleStates each = Due.laid("s2,2;k0,4;k1,4;k2,4;k3,4;");
        each.shine(1);
        Due.drops("each pump", each, 1, 1, 1, 1);
        PuddleStates others = Due.laid("s2,2;k0,4;k1,1;k2,3;k3,2;h3,20;");
        others.shine(1);
        Due.drops("no other kind", others, 1, 0, 0, 0);
        PuddleStates rained = Due.laid(ALONE + "k0,4;");
        rained.rain(1);
        rained.undo();
        Due.is("rain, undo bring it none", rained.cell(0, 2), 0);
    }

    private static void hoursEndInFlow() {
        Due.sentence("An HOUR ends in FLOW, each of several, too");
        PuddleStates p = Due.laid("s2,2;k0,4;h0,7;h1,20;h3,20;h2,6;");
        // The pump's drop falls into cell 2 at the hour's end, and one is dried there in the next hour.
        p.shine(1);
        Due.drops("behind 1 hour", p, 0, 0, 1, 0);
        PuddleStates two = Due.laid("s2,2;k0,4;h0,7;h1,20;h3,20;h2,6;");
        two.shine(2);
        Due.drops("behind 2 hours in one", two, 0, 0, 1, 0);
        // In the shade they gather, but in the second hour: had they all fallen behind the third, there were one.
        PuddleStates three = Due.laid("s2,2;k0,4;h0,9;h1,20;h3,20;h2,6;k2,1;");
        three.shine(3);
        Due.drops("behind 3 hours in one", three, 0, 0, 2, 0);
        // A cell that dries down leaves those beside it higher by 2: shade keeps 3, the other had 2.
        PuddleStates shade = Due.laid("s2,2;k0,1;k2,3;k3,3;w0,3;w1,2;");
        shade.shine(1);
        Due.drops("shade gives to the sun", shade, 2, 2, 0, 0);
    }

    /** The cell in the middle of 5 rows of 5; round it four walls, behind each a pit: up 2, down 22, right 14, left 10. */
    private static String walls(int drops) {
        return "s5,5;w12," + drops + ";h7,20;h11,20;h13,20;h17,20;h2,0;h10,0;h14,0;h22,0;k6,3;k8,3;k16,3;k18,3;";
    }

    private static void pits(String when, PuddleStates p, int up, int down, int right, int left) {
        Due.is(when + ": up", p.cell(2, 2), up);
        Due.is(when + ": down", p.cell(22, 2), down);
        Due.is(when + ": right", p.cell(14, 2), right);
        Due.is(when + ": left", p.cell(10, 2), left);
    }

    private static void bootByDrops() {
        Due.sentence("A BOOT: one drop goes into each CELL BESIDE it (up, down, right, left), as long as it has any");
        for (int drops = 1; drops <= 9; drops++) {
            PuddleStates p = Due.laid(walls(drops));
            int left = Math.max(0, drops - 4);
            Due.is("boot(12) with " + drops, p.boot(12), left);
            pits(drops + " drops", p, 1, drops > 1 ? 1 : 0, drops > 2 ? 1 : 0, drops > 3 ? 1 : 0);
            Due.is("none is lost", p.count(4), drops);
            Due.is("and again", p.boot(12), left == 0 ? NO : Math.max(0, left - 4));
            Due.is("none is lost", p.count(4), drops);
        }
    }

    private static void bootsSides() {
        Due.sentence("into each CELL BESIDE it: but KERBS, and where there is one");
        int[] sides = {7, 17, 13, 11};
        for (int kerbs = 0; kerbs < 16; kerbs++) {
            for (int drops = 1; drops <= 5; drops++) {
                StringBuilder text = new StringBuilder(walls(drops));
                int[] due = new int[4];
                int left = drops;
                for (int side = 0; side < 4; side++) {
                    if ((kerbs >> side & 1) == 1) {
                        text.append("k").append(sides[side]).append(",3;");
                    } else if (left > 0) {
                        due[side] = 1;
                        left--;
                    }
                }
                PuddleStates p = Due.laid(text.toString());
                Due.is("boot(12) with kerbs " + kerbs, p.boot(12), left);
                pits("kerbs " + kerbs, p, due[0], due[1], due[2], due[3]);
                Due.is("a boot all the same", p.count(7), 1);
            }
        }
        // At the edges, where a side is wanting: the next side in the order, and no cell of another row.
        PuddleStates corner = Due.laid("s2,3;w2,1;");
        Due.is("no up, so down", corner.boot(2), 0);
        Due.drops("down", corner, 0, 0, 0, 0, 0, 1);
        PuddleStates end = Due.laid("s2,3;w2,1;k5,3;");
        Due.is("no up, no right, so left", end.boot(2), 0);
        Due.drops("left, not the next row", end, 0, 1, 0, 0, 0, 0);
        PuddleStates start = Due.laid("s2,3;w3,1;k0,3;");
        Due.is("no left, so right", start.boot(3), 0);
        Due.drops("right, not the row ahead", start, 0, 0, 0, 0, 1, 0);
    }

    private static void bootBeside() {
        Due.sentence("a drop that goes into a DRAIN is gone, one beyond 60, too (by BOOT)");
        for (int height = 0; height <= 20; height += 10) {
            PuddleStates drain = Due.laid("s2,2;h0,0;w0,1;k1,3;k2,2;h2," + Math.max(1, height) + ";");
            Due.is("boot(0), a drain of " + height, drain.boot(0), 0);
            Due.is("it is gone", drain.count(4), 0);
            Due.is("no drop in the drain", drain.cell(2, 2), 0);
        }
        PuddleStates full = Due.laid("s2,2;k1,3;k3,3;");
        for (int i = 0; i < 7; i++) {
            full.rain(9);
        }
        Due.drops("full", full, 60, 0, 60, 0);
        // Level by 1 then: 59 and 60, none flows.
        Due.is("boot(0)", full.boot(0), 59);
        Due.drops("one is gone", full, 59, 0, 60, 0);
        Due.is("boot(2): 60 and 59", full.boot(2), 59);
        Due.drops("none is gone", full, 60, 0, 59, 0);
    }

    private static void bootThenFlow() {
        Due.sentence("A BOOT, then FLOW; how many drops the CELL has (behind FLOW)");
        PuddleStates p = Due.laid("s2,2;k1,3;k3,3;w0,2;w2,2;");
        // One down: 1 and 3, lower by 2, so it comes back.
        Due.is("boot(0)", p.boot(0), 2);
        Due.drops("as it was", p, 2, 0, 2, 0);
        PuddleStates q = Due.laid("s2,2;k1,3;k3,3;w0,2;w2,1;");
        Due.is("1 and 2", q.boot(0), 1);
        Due.drops("no way back", q, 1, 0, 2, 0);
        Due.is("2 and 1", q.boot(2), 1);
        PuddleStates flat = Due.laid("s2,2;w0,3;w1,3;w2,3;w3,3;");
        // Down and right have 4, it has 1 (level 6): cell 1 (9) goes first, back into 0; then 2 (9) into 0.
        Due.is("both come back", flat.boot(0), 3);
        Due.drops("flat again", flat, 3, 3, 3, 3);
        PuddleStates alone = Due.laid(ALONE + "w0,4;");
        Due.is("nowhere to go", alone.boot(0), 4);
        Due.is("a boot all the same", alone.count(7), 1);
    }

    private static void bootRefused() {
        Due.sentence("9: BAD; NO: it is dry");
        for (int x : new int[] {-1, 6, 35, 36, 7, -6}) {
            Twins.unchanged("boot(" + x + ")", Stories::full, BAD, p -> p.boot(x));
        }
        for (int x : FAR) {
            Twins.unchanged("boot(" + x + ")", Stories::full, BAD, p -> p.boot(x));
        }
        for (int x : new int[] {Stories.TOWER, Stories.DRAIN, Stories.KERB}) {
            Twins.unchanged("boot(" + x + "), dry", Stories::laid, NO, p -> p.boot(x));
        }
        Twins.unchanged("boot(4), a drain", Stories::full, NO, p -> p.boot(Stories.DRAIN));
        Twins.unchanged("boot(5), a kerb", Stories::full, NO, p -> p.boot(Stories.KERB));
        Twins.unchanged("boot(0) of a new object", Stories::nothing, NO, p -> p.boot(0));
        Twins.unchanged("boot(20) of a new object", Stories::nothing, BAD, p -> p.boot(20));
        Due.is("boot(19), the last cell", new PuddleStates().boot(19), NO);
        Due.is("boot(35), the last cell", Due.laid("s6,6;w35,1;").boot(35), 0);
        Due.is("boot(36)", Due.laid("s6,6;w35,1;").boot(36), BAD);
    }

    private static void stonesHeights() {
        Due.sentence("A stone: a CELL 1 lower, 0 at least; 1 higher, 20 at most; 10: the height");
        for (int height = 0; height <= 20; height++) {
            PuddleStates p = Due.laid("s2,2;h3," + height + ";");
            Due.is("dug at " + height, p.stone(3, true), height == 0 ? NO : height - 1);
            Due.is("height", p.cell(3, 0), Math.max(0, height - 1));
            Due.is("count(7)", p.count(7), height == 0 ? 0 : 1);
            PuddleStates q = Due.laid("s2,2;h3," + height + ";");
            Due.is("laid at " + height, q.stone(3, false), height == 20 ? NO : height + 1);
            Due.is("height", q.cell(3, 0), Math.min(20, height + 1));
            Due.is("count(7)", q.count(7), height == 20 ? 0 : 1);
        }
        PuddleStates all = Due.laid("s2,2;h0,20;");
        for (int height = 19; height >= 0; height--) {
            Due.is("dug to " + height, all.stone(0, true), height);
        }
        Due.is("no lower", all.stone(0, true), NO);
        for (int height = 1; height <= 20; height++) {
            Due.is("laid to " + height, all.stone(0, false), height);
        }
        Due.is("no higher", all.stone(0, false), NO);
        Due.is("the others stay", all.cell(1, 0) + all.cell(2, 0) + all.cell(3, 0), 15);
        for (int kind : new int[] {0, 1, 4}) {
            Due.is("dug in kind " + kind, Due.laid(ALONE + "k0," + kind + ";").stone(0, true), 4);
            Due.is("laid in kind " + kind, Due.laid(ALONE + "k0," + kind + ";").stone(0, false), 6);
        }
        Due.is("in a wet cell", Due.laid(ALONE + "w0,20;").stone(0, true), 4);
        Due.is("drops stay by it", Due.laid(ALONE + "w0,20;").stone(0, false), 6);
    }

    private static void stoneThenFlow() {
        Due.sentence("a stone, then FLOW");
        PuddleStates p = Due.laid("s2,2;k2,3;k3,3;w0,2;w1,1;");
        p.stone(0, true);
        Due.drops("6 and 6", p, 2, 1, 0, 0);
        p.stone(0, true);
        Due.drops("5 and 6", p, 2, 1, 0, 0);
        p.stone(0, true);
        Due.drops("4 and 6: one goes", p, 3, 0, 0, 0);
        p.stone(0, false);
        Due.drops("6 and 5", p, 3, 0, 0, 0);
        p.stone(0, false);
        Due.drops("7 and 5: one goes", p, 2, 1, 0, 0);
    }

    private static void stoneRefused() {
        Due.sentence("10: BAD; NO: it can not be lower, higher; a KERB, a DRAIN");
        for (boolean dug : new boolean[] {true, false}) {
            String call = dug ? ", true)" : ", false)";
            for (int x : new int[] {-1, 6, 35, 36, 7, Integer.MIN_VALUE, Integer.MAX_VALUE}) {
                Twins.unchanged("stone(" + x + call, Stories::full, BAD, p -> p.stone(x, dug));
            }
            for (int x : new int[] {Stories.DRAIN, Stories.KERB}) {
                Twins.unchanged("stone(" + x + call, Stories::full, NO, p -> p.stone(x, dug));
            }
            Twins.unchanged("stone(20" + call, Stories::nothing, BAD, p -> p.stone(20, dug));
            Twins.unchanged("stone(19" + call + ", a drain", Stories::nothing, NO, p -> p.stone(19, dug));
            Twins.unchanged("stone(9" + call + ", a kerb", Stories::nothing, NO, p -> p.stone(9, dug));
            for (String height : new String[] {"0", "1", "19", "20"}) {
                Due.is("a kerb of " + height, Due.laid("s2,2;k3,3;h3," + height + ";").stone(3, dug), NO);
                Due.is("a drain of " + height, Due.laid("s2,2;k3,2;h3," + height + ";").stone(3, dug), NO);
            }
        }
        Twins.unchanged("dug at 0", Stories::full, NO, p -> p.stone(Stories.SHADE, true));
        Twins.unchanged("laid at 20", Stories::full, NO, p -> p.stone(Stories.TOWER, false));
        Due.is("the last cell", Due.laid("s6,6;").stone(35, true), 4);
        Due.is("the one behind it", Due.laid("s6,6;").stone(36, true), BAD);
    }

    private static void undoEach() {
        Due.sentence("UNDONE is the latest RAIN, HOURS, BOOT, stone");
        Twins.Story[] latest = {p -> p.rain(9), p -> p.rain(1), p -> p.shine(1), p -> p.shine(20),
            p -> p.boot(Stories.SHADE), p -> p.boot(Stories.OPEN), p -> p.stone(Stories.OPEN, true),
            p -> p.stone(Stories.OPEN, false)};
        for (int i = 0; i < latest.length; i++) {
            Twins.Story one = latest[i];
            Due.is("it changes something", Twins.differ(Stories::weather, p -> {
                Stories.weather(p);
                one.tell(p);
            }) ? 1 : 0, 1);
            Twins.alike("done and undone, " + i, Stories::weather, p -> {
                Stories.weather(p);
                one.tell(p);
                Due.is("undo()", p.undo(), 4);
            });
            Twins.alike("done, undone and done again, " + i, p -> {
                Stories.weather(p);
                one.tell(p);
            }, p -> {
                Stories.weather(p);
                one.tell(p);
                p.undo();
                one.tell(p);
            });
        }
        // What rings, texts and what is kept are, stays by undo().
        PuddleStates p = Due.laid(ALONE + "w0,3;");
        p.rain(1);
        p.ring(0, 7);
        p.keep();
        p.write('x');
        Due.is("undo()", p.undo(), 0);
        Due.is("rings", p.count(6), 1);
        Due.is("kept", p.count(8), 1);
        Due.is("letters", p.count(9), 26);
        Due.is("by a rain of 4", p.rains(), 1 << 4);
        Due.is("back()", p.back(), 0);
        Due.is("as it was kept", p.cell(0, 2), 4);
    }

    private static void undoNine() {
        Due.sentence("the last 8 can be: the ninth can not");
        for (int done = 0; done <= 12; done++) {
            PuddleStates p = Due.laid(ALONE);
            for (int i = 1; i <= done; i++) {
                p.rain(1);
                Due.is("can be undone behind " + i, p.count(7), Math.min(8, i));
            }
            int many = Math.min(8, done);
            for (int i = 1; i <= many; i++) {
                Due.is("undo " + i + " of " + done, p.undo(), many - i);
                Due.is("drops", p.cell(0, 2), done - i);
                Due.is("count(7)", p.count(7), many - i);
            }
            Due.is("one more of " + done, p.undo(), NO);
            Due.is("drops", p.cell(0, 2), done - many);
        }
        for (int done = 8; done <= 11; done++) {
            PuddleStates stones = Due.laid(ALONE + "h0,0;");
            PuddleStates hours = Due.laid(ALONE + "w0,20;");
            for (int i = 1; i <= done; i++) {
                Due.is("stone " + i, stones.stone(0, false), i);
                Due.is("hour " + i, hours.shine(1), i);
            }
            for (int i = 1; i <= 8; i++) {
                Due.is("undo a stone", stones.undo(), 8 - i);
                Due.is("its height", stones.cell(0, 0), done - i);
                Due.is("undo an hour", hours.undo(), 8 - i);
                Due.is("hours gone by", hours.count(5), done - i);
                Due.is("drops", hours.cell(0, 2), 20 - done + i);
            }
            Due.is("the ninth stone", stones.undo(), NO);
            Due.is("the ninth hour", hours.undo(), NO);
        }
        // Of several kinds, and with hours: the ninth from the end stays done.
        Twins.alike("all undone", p -> {
            Stories.laid(p);
            p.rain(1);
            p.shine(3);
            for (int i = 0; i < 2; i++) {
                p.stone(Stories.OPEN, false);
                p.boot(Stories.SHADE);
                p.shine(2);
                p.rain(4);
            }
            for (int i = 7; i >= 0; i--) {
                Due.is("undo()", p.undo(), i);
            }
            Due.is("the ninth", p.undo(), NO);
            p.keep();
            p.rain(9);
            p.back();
        }, p -> {
            Stories.laid(p);
            p.rain(1);
            p.shine(3);
            p.keep();
            p.back();
        });
    }

    private static void undoneBehindOthers() {
        Due.sentence("11: UNDONE: how many more can be");
        PuddleStates p = Due.laid(ALONE);
        for (int i = 1; i <= 9; i++) {
            p.rain(i);
        }
        Due.is("undo the rain of 9", p.undo(), 7);
        Due.is("undo the rain of 8", p.undo(), 6);
        p.shine(1);
        Due.is("seven can be", p.count(7), 7);
        p.stone(0, true);
        Due.is("eight can be", p.count(7), 8);
        p.boot(0);
        Due.is("eight can be", p.count(7), 8);
        Due.is("undo the boot", p.undo(), 7);
        Due.is("undo the stone", p.undo(), 6);
        Due.is("height", p.cell(0, 0), 5);
        Due.is("undo the hour", p.undo(), 5);
        Due.is("no hour", p.count(5), 0);
        Due.is("drops", p.cell(0, 2), 28);
        int[] left = {21, 15, 10, 6, 3};
        for (int i = 0; i < left.length; i++) {
            Due.is("undo a rain", p.undo(), 4 - i);
            Due.is("drops", p.cell(0, 2), left[i]);
        }
        Due.is("no more: the rain of 1 and that of 2 stay", p.undo(), NO);
        Due.is("20 hours of one call are undone as one", p.shine(20) + p.undo() + p.count(5) + p.count(7), 20);
    }

    private static void undoRefused() {
        Due.sentence("11: NO, and nothing changes then");
        Twins.unchanged("undo() of a new object", Stories::nothing, NO, PuddleStates::undo);
        Twins.unchanged("undo() of what was laid", Stories::laid, NO, PuddleStates::undo);
        Twins.unchanged("undo() behind back()", p -> {
            Stories.full(p);
            p.back();
        }, NO, PuddleStates::undo);
        Twins.unchanged("undo() behind eight", p -> {
            Stories.full(p);
            for (int i = 0; i < 8; i++) {
                p.undo();
            }
        }, NO, PuddleStates::undo);
        Twins.unchanged("undo() behind lay()", p -> {
            Stories.full(p);
            p.lay();
        }, NO, PuddleStates::undo);
    }
}
