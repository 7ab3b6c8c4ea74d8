/** Promises 12 to 17 (BEHIND, DRY, LAST, JOIN, PART, WAY, KERB), sentence by sentence, where a number or a case ends. */
final class EdgeComingTest {
    private static final int BAD = PuddleStates.BAD, NO = PuddleStates.NO, NONE = PuddleStates.NONE;
    private static final int MIN = Integer.MIN_VALUE, MAX = Integer.MAX_VALUE;
    /** Cell 0 alone, the other three are kerbs. */
    private static final String ALONE = "s2,2;k1,3;k2,3;k3,3;";
    /** Cells 0 and 1 beside each other, kerbs below them. */
    private static final String PAIR = "s2,2;k2,3;k3,3;";
    /** A row of 6, kerbs below it. */
    private static final String LANE = "s2,6;k6,3;k7,3;k8,3;k9,3;k10,3;k11,3;";

    public static void main(String[] args) {
        behindHours();
        behindOfNow();
        behindRefused();
        dryHours();
        dryBeyondSixty();
        dryAtOnce();
        last();
        dryRefused();
        joinRains();
        joinNow();
        joinNone();
        joinRefused();
        partHours();
        partBeyondSixty();
        partNone();
        partRefused();
        wayHours();
        wayBeyondForty();
        wayHisCell();
        wayNone();
        wayRefused();
        kerbRains();
        kerbHundred();
        kerbLowest();
        kerbWetOnes();
        kerbAhead();
        kerbNone();
        kerbRefused();
        askedAlone();
        Due.end("EdgeComingTest");
    }

    /** One cell (or two) filled up beyond the 20 drops of a text. */
    private static PuddleStates filled(String text, int drops) {
        PuddleStates p = Due.laid(text);
        for (int i = 0; i < drops / 9; i++) {
            p.rain(9);
        }
        if (drops % 9 > 0) {
            p.rain(drops % 9);
        }
        return p;
    }

    private static void bad(String name, Twins.Call call) {
        Twins.unchanged(name, Stories::full, BAD, call);
    }

    private static void behindHours() {
        Due.sentence("BEHIND n HOURS (0 to 40): drops of a CELL (what = 0); its STATE (1; none: dry)");
        PuddleStates long41 = filled(ALONE, 41);
        PuddleStates long40 = filled(ALONE, 40);
        PuddleStates short3 = filled(ALONE, 3);
        for (int n = 0; n <= 40; n++) {
            Due.is("41 drops: behind(" + n + ", 0, 0)", long41.behind(n, 0, 0), 41 - n);
            Due.is("41 drops: behind(" + n + ", 0, 1)", long41.behind(n, 0, 1), 0);
            Due.is("40 drops: behind(" + n + ", 0, 0)", long40.behind(n, 0, 0), 40 - n);
            Due.is("40 drops: behind(" + n + ", 0, 1)", long40.behind(n, 0, 1), n == 40 ? NONE : 0);
            Due.is("3 drops: behind(" + n + ", 0, 0)", short3.behind(n, 0, 0), Math.max(0, 3 - n));
            Due.is("3 drops: behind(" + n + ", 0, 1)", short3.behind(n, 0, 1), n >= 3 ? NONE : 0);
        }
        PuddleStates p = Due.laid("s6,6;w35,3;w34,1;h35,3;");
        Due.is("the last cell", p.behind(1, 35, 0), 2);
        Due.is("its state", p.behind(0, 35, 1), 34);
        Due.is("its state, alone", p.behind(1, 35, 1), 35);
        Due.is("its state, dry", p.behind(3, 35, 1), NONE);
    }

    private static void behindOfNow() {
        Due.sentence("BEHIND n HOURS of sun from now: 0 is as it is");
        PuddleStates p = new PuddleStates();
        for (int i = 0; i < 3; i++) {
            for (int x = 0; x < 20; x++) {
                Due.is("behind(0, " + x + ", 0)", p.behind(0, x, 0), p.cell(x, 2));
                Due.is("behind(0, " + x + ", 1)", p.behind(0, x, 1), p.cell(x, 3));
            }
            p.rain(2);
            p.shine(1);
        }
        PuddleStates shade = Due.laid(ALONE + "k0,1;w0,9;");
        Due.is("hour 1", shade.behind(1, 0, 0), 9);
        Due.is("hours 1, 2", shade.behind(2, 0, 0), 8);
        Due.is("hours 1 to 40", filled(ALONE + "k0,1;", 21).behind(40, 0, 0), 1);
        shade.shine(1);
        Due.is("hour 2", shade.behind(1, 0, 0), 8);
        Due.is("hours 2, 3", shade.behind(2, 0, 0), 8);
        Due.is("hours 2, 3, 4", shade.behind(3, 0, 0), 7);
        Due.is("as it is", shade.behind(0, 0, 0), 9);
        PuddleStates pump = Due.laid(ALONE + "k0,4;");
        Due.is("a dry pump now", pump.behind(0, 0, 1), NONE);
        Due.is("a dry pump behind an hour", pump.behind(1, 0, 0), 1);
        Due.is("a dry pump behind 40", pump.behind(40, 0, 0), 1);
    }

    private static void behindRefused() {
        Due.sentence("12: BAD, ahead of NONE");
        int[][] wrong = {{-1, 0, 0}, {41, 0, 0}, {42, 0, 0}, {60, 0, 0}, {MIN, 0, 0}, {MAX, 0, 0}, {0, -1, 0}, {0, 6, 0},
            {0, 35, 0}, {0, 36, 0}, {0, MIN, 0}, {0, MAX, 0}, {0, 0, -1}, {0, 0, 2}, {0, 0, MIN}, {0, 0, MAX},
            {41, Stories.KERB, 1}, {-1, Stories.KERB, 1}, {0, Stories.KERB, 2}, {0, Stories.KERB, -1}, {0, 6, 1},
            {41, 6, 2}};
        for (int[] w : wrong) {
            bad("behind(" + w[0] + ", " + w[1] + ", " + w[2] + ")", p -> p.behind(w[0], w[1], w[2]));
        }
        Twins.unchanged("behind(0, 5, 1), a kerb", Stories::full, NONE, p -> p.behind(0, Stories.KERB, 1));
        Twins.unchanged("behind(40, 4, 1), a drain", Stories::full, NONE, p -> p.behind(40, Stories.DRAIN, 1));
    }

    private static void dryHours() {
        Due.sentence("DRY: behind how many HOURS (0 to 60) no CELL has drops first");
        for (int drops = 0; drops <= 60; drops++) {
            PuddleStates p = filled(ALONE, drops);
            Due.is(drops + " drops: dry(0)", p.dry(0), drops);
            Due.is(drops + " drops: dry(1)", p.dry(1), drops == 0 ? NONE : 0);
        }
        PuddleStates two = Due.laid("s2,2;k1,3;k2,3;w0,3;w3,7;");
        Due.is("no cell, so the longest", two.dry(0), 7);
        two.shine(5);
        Due.is("from now", two.dry(0), 2);
        two.shine(2);
        Due.is("dry now", two.dry(0), 0);
        PuddleStates drained = Due.laid("s2,2;k1,2;h1,6;k2,3;k3,3;w0,9;");
        Due.is("1 drop below a drain", drained.dry(0), 1);
    }

    private static void dryBeyondSixty() {
        Due.sentence("DRY (0 to 60), none; LAST then, too");
        // 30 drops in the shade dry in the 60th hour to come, or, an hour on, in the 59th.
        PuddleStates p = filled(ALONE + "k0,1;", 30);
        Due.is("60: dry(0)", p.dry(0), 60);
        Due.is("60: dry(1)", p.dry(1), 0);
        p.shine(1);
        Due.is("59: dry(0)", p.dry(0), 59);
        p.rain(1);
        Due.is("61: dry(0)", p.dry(0), NONE);
        Due.is("61: dry(1)", p.dry(1), NONE);
        p.shine(1);
        Due.is("60 again: dry(0)", p.dry(0), 60);
        Due.is("60 again: dry(1)", p.dry(1), 0);
        PuddleStates q = filled(ALONE + "k0,1;", 31);
        Due.is("62: dry(0)", q.dry(0), NONE);
        Due.is("62: dry(1)", q.dry(1), NONE);
        PuddleStates pump = Due.laid(ALONE + "k0,4;w0,1;");
        Due.is("a pump: dry(0)", pump.dry(0), NONE);
        Due.is("a pump: dry(1)", pump.dry(1), NONE);
    }

    private static void dryAtOnce() {
        Due.sentence("LAST: none (0 HOURS, too)");
        PuddleStates p = Due.laid("s2,2;");
        Due.is("dry(0)", p.dry(0), 0);
        Due.is("dry(1)", p.dry(1), NONE);
        PuddleStates pump = Due.laid("s6,6;k0,4;k35,4;");
        Due.is("first: now, though pumps are there", pump.dry(0), 0);
        Due.is("none, though pumps are there", pump.dry(1), NONE);
        p.rain(1);
        Due.is("1 hour", p.dry(0), 1);
        Due.is("and a last", p.dry(1), 0);
        p.shine(1);
        Due.is("dry again", p.dry(0), 0);
        Due.is("and no last again", p.dry(1), NONE);
    }

    private static void last() {
        Due.sentence("LAST: the lowest CELL that had some an HOUR ahead of that");
        Due.is("the last cell of all", Due.laid("s6,6;h35,0;w35,1;w0,1;w7,1;h35,0;w35,5;").dry(1), 35);
        Due.is("two to the end, one not", Due.laid("s2,3;h1,20;h4,20;w0,1;w2,3;w3,1;").dry(1), 2);
        Due.is("the lowest of two", Due.laid("s2,3;h1,20;h4,20;h0,20;h3,4;h5,4;w5,3;w3,3;").dry(1), 3);
        Due.is("of all", Due.laid("s2,2;w0,2;w1,2;w2,2;w3,2;").dry(1), 0);
        // Cell 0, in the shade, still has its drop behind hour 1; by then cell 3 is dry.
        Due.is("in the shade", Due.laid("s2,2;k1,3;k2,3;k0,1;w0,1;w3,1;").dry(1), 0);
        Due.is("not in the shade", Due.laid("s2,2;k1,3;k2,3;k0,1;w0,1;w3,3;").dry(1), 3);
    }

    private static void dryRefused() {
        Due.sentence("13: NONE; BAD");
        for (int what : new int[] {-1, 2, 3, MIN, MAX}) {
            bad("dry(" + what + ")", p -> p.dry(what));
            Twins.unchanged("dry(" + what + ") of a dry one", p -> Stories.lay(p, "s2,2;"), BAD, p -> p.dry(what));
        }
        Twins.unchanged("dry(0) by pumps", Stories::full, NONE, p -> p.dry(0));
        Twins.unchanged("dry(1) by pumps", Stories::full, NONE, p -> p.dry(1));
    }

    /** Cells 0 and 2, dry and 0 high; between them cell 1, as high as is told. */
    private static String ridge(int height) {
        return "s2,3;k3,3;k4,3;k5,3;h0,0;h2,0;h1," + height + ";";
    }

    private static void joinRains() {
        Due.sentence("JOIN: the least RAIN (0 to 30) now behind which both are of one STATE");
        for (int height = 1; height <= 20; height++) {
            // The ridge keeps one of the 3 k drops when both sides stand as high as it, or higher.
            int least = (2 * height + 3) / 3;
            PuddleStates p = Due.laid(ridge(height));
            Due.is("ridge of " + height, p.join(0, 2), least);
            Due.is("ridge of " + height + ", the other way", p.join(2, 0), least);
            Due.is("with the ridge itself", p.join(0, 1), least);
            for (int k = 1; k < least; k++) {
                p.rain(1);
                Due.is("ridge of " + height + " behind " + k, p.join(0, 2), least - k);
            }
        }
        // Behind two rains of 1 each they are of one, behind one of 2 they are not.
        PuddleStates once = Due.laid("s2,3;h5,0;h4,3;");
        Due.is("one RAIN, not several", once.join(0, 2), 3);
        once.rain(1);
        Due.is("one more", once.join(0, 2), 1);
        Due.is("9", Due.laid(ridge(13)).join(0, 2), 9);
        Due.is("10, more than rain() can", Due.laid(ridge(14)).join(0, 2), 10);
        StringBuilder pits = new StringBuilder("s2,6;");
        for (int x = 0; x < 12; x++) {
            pits.append('h').append(x).append(x == 1 ? ",20;" : ",0;");
        }
        Due.is("18, a tower among pits", Due.laid(pits.toString()).join(1, 2), 18);
    }

    private static void joinNow() {
        Due.sentence("JOIN, 0: as it is");
        PuddleStates p = Due.laid(PAIR + "w0,1;w1,1;");
        Due.is("of one", p.join(0, 1), 0);
        Due.is("of one", p.join(1, 0), 0);
        p.shine(1);
        Due.is("both dry", p.join(0, 1), 1);
        PuddleStates two = Due.laid("s2,3;k3,3;k4,3;k5,3;w0,1;w2,1;");
        Due.is("both wet, of two", two.join(0, 2), 1);
        Due.is("one is dry", two.join(0, 1), 1);
    }

    private static void joinNone() {
        Due.sentence("JOIN: none");
        Due.is("a kerb between", Due.laid("s2,2;k1,3;k2,3;w0,1;w3,1;").join(0, 3), NONE);
        Due.is("a kerb, itself", Due.laid("s2,2;k1,3;").join(0, 1), NONE);
        Due.is("a drain, itself", Due.laid("s2,2;k1,2;h1,20;").join(0, 1), NONE);
        Due.is("two kerbs", Due.laid("s2,2;k1,3;k0,3;").join(0, 1), NONE);
        Due.is("a drain between", Due.laid("s2,3;k3,3;k4,3;k5,3;k1,2;").join(0, 2), NONE);
        Due.is("drained, always dry", Due.laid("s2,3;k3,3;k4,3;k5,3;k2,2;h2,0;h0,4;w0,1;").join(0, 1), NONE);
    }

    private static void joinRefused() {
        Due.sentence("14: NONE; BAD (alike, too)");
        int[][] wrong = {{0, 0}, {3, 3}, {5, 5}, {4, 4}, {2, 2}, {-1, 0}, {0, -1}, {6, 0}, {0, 6}, {-1, -1}, {6, 6}, {MIN, 0},
            {0, MIN}, {MAX, 0}, {0, MAX}, {5, 6}, {-1, 5}, {36, 35}};
        for (int[] w : wrong) {
            bad("join(" + w[0] + ", " + w[1] + ")", p -> p.join(w[0], w[1]));
            bad("part(" + w[0] + ", " + w[1] + ")", p -> p.part(w[0], w[1]));
            for (int k : new int[] {0, 3, 9}) {
                bad("kerb(" + w[0] + ", " + w[1] + ", " + k + ")", p -> p.kerb(w[0], w[1], k));
            }
        }
        Twins.unchanged("join(0, 5), a kerb", Stories::full, NONE, p -> p.join(0, 5));
        Twins.unchanged("join(0, 3)", Stories::full, 0, p -> p.join(0, 3));
        PuddleStates all = Due.laid("s6,6;");
        Due.is("first and last", all.join(0, 35), 1);
        Due.is("beyond the last", all.join(0, 36), BAD);
    }

    private static void partHours() {
        Due.sentence("PART: behind how many HOURS (1 to 60) they are not of one first");
        for (int drops = 1; drops <= 60; drops++) {
            PuddleStates p = filled(PAIR, drops);
            Due.is(drops + " drops: part(0, 1)", p.part(0, 1), drops);
            Due.is(drops + " drops: part(1, 0)", p.part(1, 0), drops);
        }
        PuddleStates one = Due.laid(PAIR + "w0,5;w1,5;h1,6;");
        Due.is("one of the two is dry", one.part(0, 1), 5);
        Due.is("ahead: 6 and 4", one.cell(0, 2) * 10 + one.cell(1, 2), 55);
        // Both are wet, the ridge between them is dry.
        PuddleStates ridge = Due.laid("s2,3;k3,3;k4,3;k5,3;h0,3;h2,3;w0,5;w1,3;w2,5;");
        Due.drops("ahead", ridge, 5, 3, 5, 0, 0, 0);
        Due.is("by the ridge", ridge.part(0, 2), 3);
        // Cell 2 is a shade between two pumps: in the fourth hour it dries, and takes the drop of pump 0.
        PuddleStates pumps = Due.laid("s2,2;k0,4;w1,7;h2,4;k2,1;k3,4;");
        int[] together = {1, 1, 1, 1, 0, 1};
        for (int n = 0; n < together.length; n++) {
            Due.is("behind " + n, pumps.behind(n, 0, 1) == pumps.behind(n, 3, 1) ? 1 : 0, together[n]);
        }
        Due.is("first, though they hang together later", pumps.part(0, 3), 4);
        pumps.shine(4);
        Due.is("not of one by then", pumps.part(0, 3), NO);
        pumps.shine(1);
        Due.is("of one again", pumps.cell(0, 3), pumps.cell(3, 3));
    }

    private static void partBeyondSixty() {
        Due.sentence("PART (1 to 60); none");
        String shade = PAIR + "k0,1;k1,1;";
        PuddleStates p = filled(shade, 30);
        Due.is("60", p.part(0, 1), 60);
        p.shine(1);
        Due.is("59", p.part(0, 1), 59);
        p.rain(1);
        Due.is("61", p.part(0, 1), NONE);
        p.shine(1);
        Due.is("60 again", p.part(0, 1), 60);
        Due.is("62", filled(shade, 31).part(0, 1), NONE);
    }

    private static void partNone() {
        Due.sentence("15: NO: not of one STATE; NO ahead of NONE");
        Due.is("two pumps", Due.laid(PAIR + "k0,4;k1,4;w0,1;w1,1;").part(0, 1), NONE);
        Due.is("two dry pumps", Due.laid(PAIR + "k0,4;k1,4;").part(0, 1), NO);
        Due.is("a wet and a dry pump", Due.laid(PAIR + "k0,4;k1,4;w0,1;").part(0, 1), NO);
        Due.is("two wet states", Due.laid("s2,2;k1,3;k2,3;w0,1;w3,1;").part(0, 3), NO);
        Due.is("two wet pumps, a kerb between", Due.laid("s2,2;k1,3;k2,3;k0,4;k3,4;w0,1;w3,1;").part(0, 3), NO);
        Due.is("two kerbs", Due.laid(PAIR).part(2, 3), NO);
        Due.is("a kerb beside a wet one", Due.laid(PAIR + "w0,3;").part(0, 2), NO);
        Twins.unchanged("part(0, 1) of two pumps", p -> {
            Stories.lay(p, PAIR + "k0,4;k1,4;w0,1;w1,1;");
            Stories.someWeather(p);
        }, NONE, p -> p.part(0, 1));
        Twins.unchanged("part(0, 5)", Stories::full, NO, p -> p.part(0, 5));
        Twins.unchanged("part(5, 4)", Stories::full, NO, p -> p.part(5, 4));
        Twins.unchanged("part(2, 4)", Stories::full, NO, p -> p.part(2, 4));
    }

    private static void partRefused() {
        Due.sentence("15: BAD (alike, too), ahead of NO");
        PuddleStates p = filled(PAIR, 3);
        Due.is("alike, and of one", p.part(0, 0), BAD);
        Due.is("alike, and dry", p.part(2, 2), BAD);
        Due.is("a dry one and one beyond", p.part(2, 4), BAD);
        Due.is("one beyond and a dry one", p.part(4, 2), BAD);
        Due.is("a dry one and one ahead", p.part(2, -1), BAD);
        Due.is("the last two", Due.laid("s6,6;w34,1;w35,1;").part(34, 35), 1);
        Due.is("one beyond", Due.laid("s6,6;w34,1;w35,1;").part(35, 36), BAD);
    }

    private static void wayHours() {
        Due.sentence("WAY: the fewest HOURS (0 to 40) behind which he can be in b (0: a is b)");
        for (int drops = 1; drops <= 9; drops++) {
            PuddleStates p = filled(LANE, drops);
            for (int a = 0; a < 6; a++) {
                for (int b = 0; b < 6; b++) {
                    int far = Math.abs(a - b);
                    // Behind as many hours there must be drops still.
                    Due.is(drops + " drops: way(" + a + ", " + b + ")", p.way(a, b), far < drops ? far : NONE);
                }
            }
        }
        PuddleStates all = filled("s6,6;", 11);
        Due.is("from corner to corner", all.way(0, 35), 10);
        Due.is("and back", all.way(35, 0), 10);
        Due.is("10 drops are too few", filled("s6,6;", 10).way(0, 35), NONE);
    }

    private static void wayBeyondForty() {
        Due.sentence("WAY (0 to 40), none");
        // Pumps fill what is dry so slowly that cell 5 can be come to behind 41 hours.
        PuddleStates p = Due.laid("s2,3;h0,2;k0,1;h1,4;k1,3;h2,20;k2,4;h3,2;k3,1;h4,18;k4,4;h5,7;k5,4;w0,4;");
        Due.is("41 hours", p.way(0, 5), NONE);
        p.shine(1);
        Due.is("40 hours", p.way(0, 5), 40);
        p.shine(1);
        Due.is("39 hours", p.way(0, 5), 39);
        p.undo();
        p.undo();
        Due.is("41 hours", p.way(0, 5), NONE);
    }

    private static void wayHisCell() {
        Due.sentence("that in which he is then has drops, and has some behind the HOUR, too");
        Due.is("no drops behind the hour", Due.laid(PAIR + "w0,1;w1,1;").way(0, 1), NONE);
        Due.is("drops behind the hour", Due.laid(PAIR + "w0,2;w1,2;").way(0, 1), 1);
        // Cell 1, a pump, is dry now and has a drop behind the hour: he waits in his, and goes in the second.
        Due.is("no drops ahead of the hour", Due.laid(PAIR + "k0,4;k1,4;w0,1;").way(0, 1), 2);
        // Cell 0 dries in the first hour, so he can not wait in it.
        Due.is("no waiting", Due.laid(PAIR + "k1,4;w0,1;").way(0, 1), NONE);
        // Cell 1 is in the shade and stays wet: he can leave a cell that dries, if he goes at once.
        Due.is("from a cell that dries", Due.laid(PAIR + "k1,1;w0,1;w1,1;").way(0, 1), 1);
        Due.is("into a cell that dries", Due.laid(PAIR + "k0,1;w0,1;w1,1;").way(0, 1), NONE);
        Due.is("not by a corner", filled("s2,2;k1,3;k2,3;", 9).way(0, 3), NONE);
        Due.is("not by a row's end", filled("s2,3;k1,3;k5,3;", 9).way(2, 3), NONE);
        Due.is("round a kerb", filled("s2,3;k1,3;", 9).way(0, 2), 4);
    }

    private static void wayNone() {
        Due.sentence("none (a dry CELL a: none, to itself, too)");
        PuddleStates p = Due.laid(PAIR + "w0,1;h1,6;");
        Due.is("a dry, b wet", p.way(1, 0), NONE);
        Due.is("a dry, to itself", p.way(1, 1), NONE);
        Due.is("a wet, to itself", p.way(0, 0), 0);
        Due.is("a wet, b dry", p.way(0, 1), NONE);
        Due.is("a kerb, to itself", p.way(2, 2), NONE);
        Due.is("into a kerb", p.way(0, 2), NONE);
        Due.is("a drain, to itself", Due.laid("s2,2;k0,2;").way(0, 0), NONE);
        Due.is("a dry pump, to itself", Due.laid("s2,2;k0,4;").way(0, 0), NONE);
        Due.is("a dry pump, to another", Due.laid("s2,2;k0,4;k1,4;").way(0, 1), NONE);
        Due.is("to itself, by the last drop", Due.laid("s6,6;w35,1;").way(35, 35), 0);
        p.shine(1);
        Due.is("dry by now, to itself", p.way(0, 0), NONE);
    }

    private static void wayRefused() {
        Due.sentence("16: NONE; BAD");
        int[][] wrong = {{-1, 0}, {0, -1}, {6, 0}, {0, 6}, {-1, -1}, {6, 6}, {MIN, 0}, {0, MIN}, {MAX, 0}, {0, MAX},
            {Stories.KERB, 6}, {6, Stories.KERB}, {Stories.KERB, -1}, {35, 35}, {36, 36}, {64, 0}, {0, 64}};
        for (int[] w : wrong) {
            bad("way(" + w[0] + ", " + w[1] + ")", p -> p.way(w[0], w[1]));
        }
        Twins.unchanged("way(5, 5)", Stories::full, NONE, p -> p.way(5, 5));
        Twins.unchanged("way(0, 5)", Stories::full, NONE, p -> p.way(0, 5));
        Twins.unchanged("way(0, 0)", Stories::full, 0, p -> p.way(0, 0));
    }

    private static void kerbRains() {
        Due.sentence("KERB: behind a RAIN of k (0 to 9) now");
        PuddleStates p = Due.laid(LANE);
        for (int k = -3; k <= 12; k++) {
            Due.is("kerb(0, 5, " + k + ")", p.kerb(0, 5, k), k < 0 || k > 9 ? BAD : k == 0 ? 100 : 1);
        }
        // Behind how much rain two sides run together, to the drop.
        for (int height = 1; height <= 13; height++) {
            int least = (2 * height + 3) / 3;
            PuddleStates ridge = Due.laid(ridge(height));
            for (int k = 0; k <= 9; k++) {
                Due.is("ridge of " + height + ": kerb(0, 2, " + k + ")", ridge.kerb(0, 2, k), k < least ? 100 : 1);
            }
        }
        // Behind three rains of 1 each they are apart, behind one of 3 they are not.
        Due.is("one RAIN, not several", Due.laid("s2,3;h5,8;h3,0;").kerb(1, 5, 3), 0);
        PuddleStates wet = filled(LANE, 1);
        for (int k = 0; k <= 9; k++) {
            Due.is("all wet: kerb(0, 5, " + k + ")", wet.kerb(0, 5, k), NONE);
        }
    }

    private static void kerbHundred() {
        Due.sentence("two CELLS are apart, if they are not of one STATE: 100");
        Due.is("two dry ones", Due.laid(PAIR).kerb(0, 1, 0), 100);
        Due.is("a wet and a dry one", Due.laid(PAIR + "w0,1;").kerb(0, 1, 0), 100);
        Due.is("two wet ones, of two", Due.laid("s2,2;k1,3;k2,3;w0,1;w3,1;").kerb(0, 3, 0), 100);
        Due.is("of two by any rain", Due.laid("s2,2;k1,3;k2,3;w0,1;w3,1;").kerb(0, 3, 9), 100);
        Due.is("a kerb", Due.laid(PAIR).kerb(0, 2, 9), 100);
        Due.is("two kerbs", Due.laid(PAIR).kerb(3, 2, 9), 100);
        Due.is("a drain", Due.laid(PAIR + "k0,2;").kerb(0, 1, 9), 100);
        Due.is("of one now, but not behind that rain", Due.laid("s2,2;").kerb(0, 3, 0), 100);
        Due.is("of one", Due.laid(PAIR + "w0,1;w1,1;").kerb(0, 1, 0), NONE);
    }

    private static void kerbLowest() {
        Due.sentence("else the lowest CELL, neither of them, that is no KERB");
        PuddleStates p = Due.laid(LANE);
        for (int x = 0; x < 6; x++) {
            for (int y = 0; y < 6; y++) {
                if (x != y) {
                    int between = Math.min(x, y) + 1;
                    int due = Math.abs(x - y) > 1 ? between : NONE;
                    Due.is("kerb(" + x + ", " + y + ", 2)", p.kerb(x, y, 2), due);
                }
            }
        }
        Due.is("cell 0", Due.laid("s2,2;k3,3;").kerb(1, 2, 1), 0);
        Due.is("the last cell but y", Due.laid("s2,2;k0,3;").kerb(1, 2, 1), 3);
        Due.is("the last cell of all", Due.laid("s6,6;k23,3;k28,3;").kerb(29, 34, 1), 35);
        // Not one of them by being dry itself: x were dry, and so apart, were it a kerb.
        Due.is("neither of them", Due.laid(PAIR).kerb(0, 1, 3), NONE);
    }

    private static void kerbWetOnes() {
        Due.sentence("and has no drops now");
        // Pits in the lane are wet now: they can be no kerbs, the first dry one can.
        String wet = LANE + "h1,3;w1,1;";
        Due.is("1 is wet", Due.laid(wet).kerb(0, 5, 3), 2);
        Due.is("1, 2 are wet", Due.laid(wet + "h2,3;w2,1;").kerb(0, 5, 3), 3);
        Due.is("1, 2, 3 are wet", Due.laid(wet + "h2,3;w2,1;h3,3;w3,1;").kerb(0, 5, 3), 4);
        Due.is("all between are wet", Due.laid(wet + "h2,3;w2,1;h3,3;w3,1;h4,3;w4,1;").kerb(0, 5, 3), NONE);
        PuddleStates p = Due.laid(wet);
        p.shine(1);
        Due.is("dry by now", p.kerb(0, 5, 3), 1);
        p.undo();
        Due.is("wet again", p.kerb(0, 5, 3), 2);
        Due.is("a dry shade, a dry pump", Due.laid(LANE + "k1,1;w1,1;k2,4;").kerb(0, 5, 3), 2);
        Due.is("a dry shade", Due.laid(LANE + "k1,1;").kerb(0, 5, 3), 1);
    }

    private static void kerbAhead() {
        Due.sentence("were it a KERB ahead of that RAIN");
        // The tower in 0 pours its rain into 1: the ridge in 2 is wet by that alone, so 1 and 3 are apart without it.
        PuddleStates p = Due.laid("s2,5;k4,3;k5,3;k6,3;k7,3;k8,3;k9,3;h0,20;h1,0;h2,5;h3,0;");
        Due.is("a tower that pours", p.kerb(1, 3, 3), 0);
        Due.is("by more rain the ridge is wet all the same", p.kerb(1, 3, 4), 2);
        Due.is("by less it is dry", p.kerb(1, 3, 2), 100);
        Due.is("no kerb stays", p.cell(0, 1) + p.cell(2, 1), 0);
        p.rain(3);
        Due.is("by now the tower is dry, and of no matter", p.kerb(1, 3, 0), NONE);
        // Cell 2 lies low, but were it a kerb no drop would go into it.
        Due.is("a kerb takes no drops", Due.laid("s2,2;h2,3;").kerb(0, 1, 2), NONE);
        PuddleStates told = Due.laid(LANE);
        Stories.write(told, "s6,2;k3,3;");
        Due.is("a text that is not laid has no fault", told.fault(), NONE);
        Due.is("and is of no matter", told.kerb(0, 3, 1), 1);
    }

    private static void kerbNone() {
        Due.sentence("KERB: none");
        Due.is("two ways", Due.laid("s2,2;").kerb(0, 3, 1), NONE);
        Due.is("beside each other", Due.laid("s6,6;").kerb(0, 1, 9), NONE);
        Due.is("three ways", Due.laid("s6,6;").kerb(7, 28, 9), NONE);
        Twins.unchanged("kerb(0, 3, 9)", Stories::full, NONE, p -> p.kerb(0, 3, 9));
        Twins.unchanged("kerb(0, 5, 9)", Stories::full, 100, p -> p.kerb(0, 5, 9));
        Twins.unchanged("kerb(0, 4, 9) of a lane", p -> Stories.lay(p, "s2,5;k5,3;k6,3;k7,3;k8,3;k9,3;"), 1,
            p -> p.kerb(0, 4, 9));
    }

    private static void kerbRefused() {
        Due.sentence("17: NONE; BAD (alike, too): ahead of 100 and NONE");
        for (int k : new int[] {-1, 10, 11, 30, MIN, MAX}) {
            bad("kerb(0, 3, " + k + ")", p -> p.kerb(0, 3, k));
            bad("kerb(5, 4, " + k + ")", p -> p.kerb(5, 4, k));
        }
        Due.is("the last two", Due.laid("s6,6;").kerb(34, 35, 0), 100);
        Due.is("one beyond", Due.laid("s6,6;").kerb(35, 36, 0), BAD);
        Due.is("one beyond", Due.laid("s6,6;").kerb(36, 35, 0), BAD);
    }

    private static void askedAlone() {
        Due.sentence("what comes is asked alone: nothing goes by");
        for (int n : new int[] {0, 1, 40}) {
            for (int what = 0; what <= 1; what++) {
                PuddleStates p = new PuddleStates();
                Stories.full(p);
                int is = p.behind(n, 1, what);
                int asked = what;
                Twins.unchanged("behind(" + n + ", 1, " + what + ")", Stories::full, is, q -> q.behind(n, 1, asked));
            }
        }
        PuddleStates p = new PuddleStates();
        Stories.weather(p);
        int[] is = {p.dry(0), p.dry(1), p.join(0, 1), p.part(0, 1), p.way(0, 3), p.kerb(0, 1, 9), p.kerb(1, 3, 0)};
        Twins.Call[] calls = {q -> q.dry(0), q -> q.dry(1), q -> q.join(0, 1), q -> q.part(0, 1), q -> q.way(0, 3),
            q -> q.kerb(0, 1, 9), q -> q.kerb(1, 3, 0)};
        for (int i = 0; i < calls.length; i++) {
            Twins.unchanged("asked, " + i, Stories::weather, is[i], calls[i]);
        }
    }
}
