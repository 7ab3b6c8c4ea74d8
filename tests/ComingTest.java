/** Promises 12 to 17: what comes: behind hours, dry, join, part, way, kerb. */
final class ComingTest {
    private static final int BAD = PuddleStates.BAD, NO = PuddleStates.NO, NONE = PuddleStates.NONE;
    // A trough in a square of 3 rows of 6: cells 7, 8, 9, 10 lie as deep as a test tells.
    private static final String WALLS = "h0,20;h1,20;h2,20;h3,20;h4,20;h5,20;h6,20;h11,20;h12,20;h13,20;h14,20;"
        + "h15,20;h16,20;h17,20;";

    public static void main(String[] args) {
        behind();
        dry();
        join();
        joinAtTheEdges();
        part();
        partAtTheEdges();
        way();
        wayInTime();
        wayAtTheEdges();
        kerb();
        kerbKinds();
        nothingChanges();
        Due.end("ComingTest");
    }

    private static void behind() {
        PuddleStates p = Due.laid("s2,2;w0,4;w1,2;w2,3;k0,1;k3,3;h1,7;");
        Due.drops("ahead", p, 4, 2, 3, 0);
        // In hour 1 cell 0, in the shade, loses none, but one flows down into cell 2.
        int[][] due = {{4, 2, 3}, {3, 1, 3}, {2, 0, 2}, {2, 0, 1}, {1, 0, 0}};
        for (int n = 0; n < due.length; n++) {
            for (int x = 0; x < 3; x++) {
                Due.is("behind(" + n + ", " + x + ", 0)", p.behind(n, x, 0), due[n][x]);
            }
        }
        Due.is("state behind 1", p.behind(1, 2, 1), 0);
        Due.is("state behind 2, dry", p.behind(2, 1, 1), NONE);
        Due.is("a kerb has no drops", p.behind(0, 3, 0), 0);
        Due.is("a kerb has no state", p.behind(0, 3, 1), NONE);
        Due.is("behind(40, 0, 0)", p.behind(40, 0, 0), 0);
        Due.is("behind(41, 0, 0)", p.behind(41, 0, 0), BAD);
        Due.is("behind(-1, 0, 0)", p.behind(-1, 0, 0), BAD);
        Due.is("behind(0, 4, 0)", p.behind(0, 4, 0), BAD);
        Due.is("behind(0, -1, 0)", p.behind(0, -1, 0), BAD);
        Due.is("behind(0, 0, 2)", p.behind(0, 0, 2), BAD);
        Due.is("behind(0, 0, -1)", p.behind(0, 0, -1), BAD);
        p.shine(1);
        Due.is("shade by all hours gone by", p.behind(1, 0, 0), 2);
        Due.is("and the next", p.behind(2, 0, 0), 2);
        Due.is("and the second", p.behind(3, 0, 0), 1);

        PuddleStates forty = Due.laid("s2,2;w0,20;w1,20;w2,20;w3,20;");
        forty.rain(9);
        forty.rain(9);
        forty.rain(3);
        Due.is("41 drops behind 40 hours", forty.behind(40, 3, 0), 1);
        Due.is("their state", forty.behind(40, 3, 1), 0);
        Due.is("no hour is gone by", forty.count(5), 0);
    }

    private static void dry() {
        PuddleStates p = Due.laid("s2,2;w0,2;h0,2;w3,3;h3,0;");
        Due.is("dry(0)", p.dry(0), 3);
        Due.is("dry(1)", p.dry(1), 3);
        Due.is("dry(2)", p.dry(2), BAD);
        Due.is("dry(-1)", p.dry(-1), BAD);
        PuddleStates alike = Due.laid("s2,2;h1,20;h2,20;w3,2;w0,2;");
        Due.is("of several the lowest", alike.dry(1), 0);
        PuddleStates none = Due.laid("s2,2;");
        Due.is("dry at once", none.dry(0), 0);
        Due.is("no last", none.dry(1), NONE);
        PuddleStates pump = Due.laid("s2,2;k2,4;");
        Due.is("a pump, still dry", pump.dry(0), 0);
        pump.shine(1);
        Due.is("a pump never dries", pump.dry(0), NONE);
        Due.is("nor is there a last", pump.dry(1), NONE);
        PuddleStates drained = Due.laid("s2,2;k2,4;h2,9;w2,3;k0,2;");
        Due.is("a pump above a drain", drained.dry(0), 0);
        sixtyHours();
    }

    /** A drop in the shade takes two hours: 30 are dry behind 60, 31 are not. */
    private static void sixtyHours() {
        PuddleStates p = Due.laid("s2,2;k0,1;k1,3;k2,3;k3,3;w0,20;");
        Due.is("20 drops", p.dry(0), 40);
        p.rain(9);
        Due.is("29 drops", p.dry(0), 58);
        p.rain(1);
        Due.is("30 drops", p.dry(0), 60);
        Due.is("the last of 30 drops", p.dry(1), 0);
        p.rain(1);
        Due.is("31 drops", p.dry(0), NONE);
        Due.is("the last of 31 drops", p.dry(1), NONE);
        p.shine(1);
        Due.is("31 drops an hour later", p.dry(0), NONE);
        p.undo();
        p.shine(2);
        Due.is("30 drops again", p.dry(0), 60);
        p.shine(1);
        Due.is("an hour fewer", p.dry(0), 59);
    }

    private static void join() {
        PuddleStates p = Due.laid("s3,6;" + WALLS + "h7,0;h8,3;h9,1;h10,4;w7,1;w9,1;");
        Due.drops("ahead", p, 0, 0, 0, 0, 0, 0, 0, 1, 0, 1, 0, 0, 0, 0, 0, 0, 0, 0);
        Due.is("1 drop a cell, from the walls too", p.join(7, 9), 1);
        Due.is("it is told for both ways", p.join(9, 7), 1);
        p.rain(1);
        Due.is("by now", p.join(7, 9), 0);
        Due.is("join(7, 7)", p.join(7, 7), BAD);
        Due.is("join(18, 7)", p.join(18, 7), BAD);
        Due.is("join(7, 18)", p.join(7, 18), BAD);
        Due.is("join(-1, 7)", p.join(-1, 7), BAD);
        Due.is("join(7, -1)", p.join(7, -1), BAD);
        PuddleStates apart = Due.laid("s2,2;k1,3;k2,3;w0,3;w3,3;");
        Due.is("kerbs between", apart.join(0, 3), NONE);
        Due.is("a kerb joins none", apart.join(0, 1), NONE);
        Due.is("a drain joins none", Due.laid("s2,2;k1,2;h1,20;w0,3;").join(0, 1), NONE);
    }

    /** Cell 1 is 20 high, and stays wet only when the pit below it is full. */
    private static void joinAtTheEdges() {
        PuddleStates tower = Due.laid("s2,4;h0,12;k0,3;h1,20;h2,0;h3,0;k3,4;h4,0;h5,0;h6,1;h7,3;k7,3;");
        Due.is("more than rain() can", tower.join(1, 4), 17);
        tower.rain(9);
        Due.is("a part of it is there", tower.join(1, 4), 8);
        tower.rain(8);
        Due.is("all of it is there", tower.join(1, 4), 0);
        PuddleStates drained = Due.laid("s2,2;h0,0;h1,20;h2,20;h3,20;k3,2;");
        Due.is("a drain keeps them dry", drained.join(1, 2), NONE);
    }

    private static void part() {
        PuddleStates p = Due.laid("s3,6;" + WALLS + "h7,3;h8,5;h9,3;h10,20;w7,5;w8,1;w9,3;");
        Due.drops("ahead", p, 0, 0, 0, 0, 0, 0, 0, 4, 2, 3, 0, 0, 0, 0, 0, 0, 0, 0);
        Due.is("part(7, 9)", p.part(7, 9), 2);
        Due.is("part(9, 7)", p.part(9, 7), 2);
        Due.is("part(7, 8)", p.part(7, 8), 2);
        Due.is("a dry one", p.part(7, 10), NO);
        Due.is("two dry ones", p.part(0, 1), NO);
        Due.is("part(7, 7)", p.part(7, 7), BAD);
        Due.is("alike and dry", p.part(0, 0), BAD);
        Due.is("part(18, 0)", p.part(18, 0), BAD);
        Due.is("part(0, 18)", p.part(0, 18), BAD);
        Due.is("part(-1, 0)", p.part(-1, 0), BAD);
        p.shine(2);
        Due.is("two states", p.part(7, 9), NO);
        Due.is("by pumps they stay", Due.laid("s2,2;k0,4;k1,4;w0,1;w1,1;").part(0, 1), NONE);
    }

    private static void partAtTheEdges() {
        // 60 drops a cell in the sun: they part behind the 60th hour; in the shade, not in 60.
        String flat = "s2,2;w0,20;w1,20;w2,20;w3,20;";
        PuddleStates sun = Due.laid(flat);
        PuddleStates shade = Due.laid(flat + "k0,1;k1,1;k2,1;k3,1;");
        for (int i = 0; i < 5; i++) {
            sun.rain(9);
            shade.rain(9);
        }
        Due.is("60 drops", sun.part(0, 3), 60);
        Due.is("dry by then", sun.dry(0), 60);
        Due.is("in the shade", shade.part(0, 3), NONE);
        Due.is("nor dry", shade.dry(0), NONE);
        // 30 and 31 drops in the shade, an odd hour gone by: they last for 59 hours and for 61.
        PuddleStates late = Due.laid("s2,2;k0,1;k1,1;k2,3;k3,3;w0,20;w1,20;");
        late.rain(9);
        late.rain(1);
        Due.is("60 hours", late.part(0, 1), 60);
        late.shine(1);
        Due.is("59 hours", late.part(0, 1), 59);
        late.rain(1);
        Due.is("61 hours", late.part(0, 1), NONE);
        PuddleStates one = Due.laid("s2,2;w0,1;w1,1;w2,1;w3,1;");
        Due.is("1 drop", one.part(0, 3), 1);
    }

    private static void way() {
        PuddleStates p = Due.laid("s2,5;h5,20;h6,20;h7,20;h8,20;h9,20;w0,5;w1,5;w2,5;w3,5;w4,5;");
        for (int b = 0; b < 5; b++) {
            Due.is("way(0, " + b + ")", p.way(0, b), b);
        }
        Due.is("it dries behind 5", p.dry(0), 5);
        Due.is("to a dry cell", p.way(0, 9), NONE);
        Due.is("from a dry cell", p.way(9, 0), NONE);
        Due.is("from a dry cell to itself", p.way(9, 9), NONE);
        Due.is("from a wet cell to itself", p.way(4, 4), 0);
        Due.is("way(10, 0)", p.way(10, 0), BAD);
        Due.is("way(0, 10)", p.way(0, 10), BAD);
        Due.is("way(-1, 0)", p.way(-1, 0), BAD);
        Due.is("way(0, -1)", p.way(0, -1), BAD);
        p.shine(1);
        Due.is("4 drops: cell 4 is dry when he comes", p.way(0, 4), NONE);
        Due.is("cell 3 behind 3 hours", p.way(0, 3), 3);
        PuddleStates last = Due.laid("s2,2;w0,1;w1,1;");
        Due.is("he needs drops behind the hour, too", last.way(0, 1), NONE);
        Due.is("none to stay in", last.way(0, 0), 0);
        Due.is("not by dry cells", Due.laid("s2,2;w1,9;w2,9;h0,20;h3,20;").way(1, 2), NONE);
        Due.is("round a kerb", Due.laid("s2,2;k1,3;w0,9;w2,9;w3,9;").way(0, 3), 2);
        Due.is("not by a corner", Due.laid("s2,2;k1,3;k2,3;w0,9;w3,9;").way(0, 3), NONE);
    }

    private static void wayInTime() {
        // The pump fills what parts the two: cell 1 has drops behind an hour at last, and he waits for it.
        PuddleStates p = Due.laid("s2,3;h3,20;h4,20;h5,20;h0,5;h1,7;h2,5;k0,4;k2,4;w0,1;w2,1;");
        Due.drops("two states", p, 1, 0, 1, 0, 0, 0);
        Due.is("nothing fills", p.way(0, 2), NONE);
        PuddleStates rising = Due.laid("s2,3;h3,20;h4,20;h5,20;h0,5;h1,6;h2,5;k0,4;k1,4;k2,4;w0,1;w2,1;");
        Due.drops("the middle one is dry", rising, 1, 0, 1, 0, 0, 0);
        // Behind hour 1 the middle pump has one (level 7 by 6: it stays); he goes in ahead of hour 2, out ahead of 3.
        Due.is("a way that comes", rising.way(0, 2), 3);
        Due.is("and its middle", rising.way(0, 1), 2);
        rising.shine(1);
        Due.is("an hour later", rising.way(0, 2), 2);
    }

    private static void wayAtTheEdges() {
        PuddleStates p = Due.laid("s2,6;k6,3;k7,3;k8,3;k9,3;k10,3;k11,3;w0,9;w1,9;w2,9;w3,9;w4,9;w5,9;");
        Due.is("5 cells on", p.way(0, 5), 5);
        p.shine(4);
        Due.is("5 drops each: the last hour dries it", p.way(0, 5), NONE);
        Due.is("4 cells on", p.way(0, 4), 4);
        StringBuilder snake = new StringBuilder("s6,6;");
        for (int x : new int[] {6, 7, 8, 9, 10, 19, 20, 21, 22, 23, 30, 31, 32, 33, 34}) {
            snake.append('k').append(x).append(",3;");
        }
        PuddleStates lane = Due.laid(snake.toString());
        for (int i = 0; i < 7; i++) {
            lane.rain(9);
        }
        Due.is("60 drops each", lane.cell(0, 2), 60);
        Due.is("by one lane", lane.way(0, 18), 5 + 2 + 5 + 1);
        Due.is("to its end", lane.way(0, 35), 5 + 2 + 5 + 2 + 5 + 1);
        // Pumps fill the pit so slowly that cell 5 can be come to behind 41 hours only.
        PuddleStates slow = Due.laid("s2,3;h0,2;k0,1;h1,4;k1,3;h2,20;k2,4;h3,2;k3,1;h4,18;k4,4;h5,7;k5,4;w0,4;");
        Due.is("41 hours", slow.way(0, 5), NONE);
        slow.shine(1);
        Due.is("40 hours", slow.way(0, 5), 40);
        slow.shine(1);
        Due.is("39 hours", slow.way(0, 5), 39);
    }

    private static void kerb() {
        PuddleStates p = Due.laid("s3,6;" + WALLS + "h7,3;h8,5;h9,3;h10,20;w7,1;w9,1;");
        Due.is("apart now", p.kerb(7, 9, 0), 100);
        Due.is("by a kerb in cell 8, ahead of a rain of 1", p.kerb(7, 9, 1), 8);
        Due.is("a rain of 9 drowns all", p.kerb(7, 9, 9), NONE);
        Due.is("kerb(7, 9, 10)", p.kerb(7, 9, 10), BAD);
        Due.is("kerb(7, 9, -1)", p.kerb(7, 9, -1), BAD);
        Due.is("kerb(7, 7, 0)", p.kerb(7, 7, 0), BAD);
        Due.is("kerb(18, 7, 0)", p.kerb(18, 7, 0), BAD);
        Due.is("kerb(7, 18, 0)", p.kerb(7, 18, 0), BAD);
        Due.is("kerb(-1, 7, 0)", p.kerb(-1, 7, 0), BAD);
        Due.is("kerb(7, -1, 0)", p.kerb(7, -1, 0), BAD);
        p.rain(1);
        Due.is("no kerb in a wet cell", p.kerb(7, 9, 0), NONE);
        Due.is("neither of the two", Due.laid("s2,2;k2,3;").kerb(0, 1, 1), NONE);
        Due.is("two dry ones", Due.laid("s2,2;").kerb(0, 1, 0), 100);
        // Ways by 1 and 2: one kerb is not enough; with a kerb in 2 already, the one in 1 is.
        Due.is("two ways", Due.laid("s2,2;").kerb(0, 3, 1), NONE);
        Due.is("one way", Due.laid("s2,2;k2,3;").kerb(0, 3, 1), 1);
        Due.is("of two that would do the lowest", Due.laid("s2,6;k6,3;k7,3;k8,3;k9,3;k10,3;k11,3;").kerb(0, 4, 2), 1);
        Due.is("by rain that does not come to one of them",
            Due.laid("s2,3;k3,3;h0,20;h1,5;h2,5;h4,20;h5,20;").kerb(0, 1, 1), 100);
    }

    private static void kerbKinds() {
        PuddleStates p = Due.laid("s2,3;k3,3;k5,3;k4,2;h4,0;");
        Due.is("the drain keeps cell 1 dry", p.kerb(0, 2, 3), 100);
        PuddleStates q = Due.laid("s2,4;k4,2;h4,20;k5,3;k6,3;k7,3;");
        Due.is("the lowest of 1, 2", q.kerb(0, 3, 2), 1);
        PuddleStates r = Due.laid("s2,2;k1,2;h1,20;");
        Due.is("the drain is looked at, but parts none", r.kerb(0, 3, 1), 2);
        Due.is("a drain is apart from all", r.kerb(0, 1, 9), 100);
        Due.is("a kerb is apart from all", p.kerb(0, 3, 9), 100);
        Due.is("by cell 0", Due.laid("s2,2;k3,3;").kerb(1, 2, 1), 0);
        PuddleStates other = new PuddleStates();
        for (char letter : "s6,6;k1,3;".toCharArray()) {
            other.write(letter);
        }
        int[] ahead = {other.kerb(6, 17, 1), other.kerb(6, 7, 1), other.kerb(7, 17, 1)};
        Due.is("a text not laid has no fault", other.fault(), NONE);
        Due.is("and is no matter for kerbs", other.kerb(6, 17, 1), ahead[0]);
        Due.is("and is no matter for kerbs", other.kerb(6, 7, 1), ahead[1]);
        Due.is("and is no matter for kerbs", other.kerb(7, 17, 1), ahead[2]);
        PuddleStates lane = Due.laid("s2,4;k4,3;k5,3;k6,3;k7,3;");
        lane.wipe();
        for (char letter : "s6,2;".toCharArray()) {
            lane.write(letter);
        }
        lane.fault();
        Due.is("a lane of 4 by its second cell", lane.kerb(0, 3, 1), 1);
        PuddleStates pump = Due.laid("s2,3;k1,4;k3,3;k4,3;k5,3;");
        Due.is("a pump can be a kerb", pump.kerb(0, 2, 1), 1);
        PuddleStates wall = Due.laid("s2,3;k3,3;k4,3;k5,3;w0,5;");
        Due.is("water all along", wall.kerb(0, 1, 0), NONE);
        Due.is("cell 2 is dry: no way goes by it", wall.kerb(0, 1, 1), NONE);
    }

    private static void nothingChanges() {
        PuddleStates p = Due.laid("s2,3;k1,1;k2,4;w0,9;w5,3;");
        p.rain(2);
        p.keep();
        int[] ahead = new int[10];
        for (int what = 0; what < 10; what++) {
            ahead[what] = p.count(what);
        }
        int[] drops = new int[6];
        for (int x = 0; x < 6; x++) {
            drops[x] = p.cell(x, 2);
        }
        p.behind(40, 0, 0);
        p.behind(3, 0, 1);
        p.dry(0);
        p.join(0, 5);
        p.part(0, 5);
        p.way(0, 5);
        p.kerb(0, 5, 9);
        p.kerb(0, 2, 0);
        for (int what = 0; what < 10; what++) {
            Due.is("still count(" + what + ")", p.count(what), ahead[what]);
        }
        Due.drops("still", p, drops);
        Due.is("no kerb stays", p.cell(1, 1), 1);
    }
}
