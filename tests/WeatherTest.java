/** Promises 7 to 11: rain, sun, boots, stones, and how they are undone. */
final class WeatherTest {
    private static final int BAD = PuddleStates.BAD, NO = PuddleStates.NO;

    public static void main(String[] args) {
        rain();
        shine();
        shadeAndPump();
        boot();
        stone();
        undo();
        undoAll();
        undoStonesAndHours();
        Due.end("WeatherTest");
    }

    private static void rain() {
        PuddleStates p = Due.laid("s2,2;k1,2;k2,3;h1,9;");
        Due.is("rain(0)", p.rain(0), BAD);
        Due.is("rain(10)", p.rain(10), BAD);
        Due.is("rain(-1)", p.rain(-1), BAD);
        Due.is("no BAD can be undone", p.count(7), 0);
        Due.is("rain(1)", p.rain(1), 2);
        Due.drops("no rain in a drain, a kerb", p, 1, 0, 0, 1);
        Due.is("rain(2)", p.rain(2), 6);
        Due.is("the drain takes what stands above it", p.rain(9), 8);
        Due.drops("none stands above the drain's height", p, 4, 0, 0, 4);
    }

    private static void shine() {
        PuddleStates p = Due.laid("s2,2;w0,20;w1,20;w2,20;w3,20;");
        int[] wrong = {0, 21, -1, Integer.MAX_VALUE, Integer.MIN_VALUE};
        for (int n : wrong) {
            Due.is("shine(" + n + ")", p.shine(n), BAD);
        }
        Due.is("no hour gone by", p.count(5), 0);
        Due.is("shine(1)", p.shine(1), 1);
        Due.drops("behind 1 hour", p, 19, 19, 19, 19);
        Due.is("shine(18)", p.shine(18), 19);
        Due.drops("behind 19 hours", p, 1, 1, 1, 1);
        Due.is("shine(20)", p.shine(20), 39);
        Due.drops("dry", p, 0, 0, 0, 0);
        Due.is("count(5)", p.count(5), 39);
        Due.is("count(7)", p.count(7), 3);
    }

    private static void shadeAndPump() {
        PuddleStates p = Due.laid("s2,2;k0,1;w0,5;k1,3;k2,3;k3,4;w3,5;");
        Due.is("hour 1", p.shine(1), 1);
        Due.drops("shade keeps in hour 1, the pump gives back", p, 5, 0, 0, 5);
        p.rain(1);
        Due.is("hour 2", p.shine(1), 2);
        Due.drops("shade dries in hour 2, of all", p, 5, 0, 0, 6);
        p.shine(1);
        Due.drops("hour 3", p, 5, 0, 0, 6);
        p.shine(3);
        Due.drops("hours 4, 5, 6", p, 3, 0, 0, 6);
        Due.is("undo()", p.undo(), 4);
        Due.is("undone are hours, too", p.shine(1), 4);
        Due.drops("hour 4 again", p, 4, 0, 0, 6);

        PuddleStates dry = Due.laid("s2,2;k0,4;");
        dry.shine(1);
        Due.drops("a dry pump gets one", dry, 1, 0, 0, 0);
        PuddleStates spill = Due.laid("s2,2;k0,4;h0,6;");
        spill.shine(1);
        Due.drops("its drop flows at the hour's end", spill, 0, 0, 1, 0);
        // Each hour by itself: were they one flow behind both hours, the drop of the first would stay to dry.
        spill.shine(1);
        Due.drops("and dries in the next hour", spill, 0, 0, 1, 0);
    }

    private static void boot() {
        PuddleStates p = Due.laid("s3,3;h4,3;w4,2;");
        Due.drops("ahead", p, 0, 0, 0, 0, 2, 0, 0, 0, 0);
        Due.is("boot(4)", p.boot(4), 1 + 1);
        Due.drops("what was kicked out flows back", p, 0, 0, 0, 0, 2, 0, 0, 0, 0);
        PuddleStates flat = Due.laid("s3,3;w4,1;");
        Due.is("one drop goes up", flat.boot(4), 0);
        Due.drops("up", flat, 0, 1, 0, 0, 0, 0, 0, 0, 0);
        Due.is("a dry cell", flat.boot(4), NO);
        Due.is("boot(9)", flat.boot(9), BAD);
        Due.is("boot(-1)", flat.boot(-1), BAD);
        Due.is("count(7)", flat.count(7), 1);
        Due.is("down is next where there is no up", flat.boot(1), 0);
        Due.drops("down", flat, 0, 0, 0, 0, 1, 0, 0, 0, 0);
        PuddleStates walled = Due.laid("s3,3;k1,3;k7,2;w4,1;h7,20;");
        walled.boot(4);
        Due.drops("a kerb is passed over, a drain swallows, even uphill", walled, 0, 0, 0, 0, 0, 0, 0, 0, 0);
        PuddleStates four = Due.laid("s3,3;h4,1;w4,3;h1,5;h3,5;h5,5;h7,5;k1,3;k7,3;");
        Due.is("right and left", four.boot(4), 3);
        PuddleStates right = Due.laid("s3,3;w4,1;k1,3;k7,3;");
        right.boot(4);
        Due.drops("right ahead of left", right, 0, 0, 0, 0, 0, 1, 0, 0, 0);
        PuddleStates alone = Due.laid("s2,2;w0,4;k1,3;k2,3;");
        Due.is("nowhere to go", alone.boot(0), 4);
        Due.is("a boot all the same", alone.count(7), 1);
        PuddleStates drain = Due.laid("s2,2;k1,2;");
        drain.rain(3);
        Due.is("a drain is dry", drain.boot(1), NO);
        PuddleStates three = Due.laid("s3,3;w4,1;");
        three.rain(2);
        Due.is("it gives three, and up and right give one back", three.boot(4), 2);
        Due.drops("down keeps its one", three, 2, 2, 2, 2, 2, 2, 2, 3, 2);
    }

    private static void stone() {
        PuddleStates p = Due.laid("s2,2;h0,1;h1,19;k2,2;k3,3;");
        Due.is("dug", p.stone(0, true), 0);
        Due.is("no lower than 0", p.stone(0, true), NO);
        Due.is("laid", p.stone(1, false), 20);
        Due.is("no higher than 20", p.stone(1, false), NO);
        Due.is("a drain", p.stone(2, true), NO);
        Due.is("a drain", p.stone(2, false), NO);
        Due.is("a kerb", p.stone(3, true), NO);
        Due.is("a kerb", p.stone(3, false), NO);
        Due.is("stone(4, true)", p.stone(4, true), BAD);
        Due.is("stone(-1, false)", p.stone(-1, false), BAD);
        Due.is("count(7)", p.count(7), 2);
        Due.is("height", p.cell(0, 0), 0);
        Due.is("height", p.cell(1, 0), 20);
        Due.is("laid again", p.stone(0, false), 1);
        PuddleStates wet = Due.laid("s2,2;w0,1;");
        wet.stone(1, true);
        Due.drops("flow behind a stone dug", wet, 0, 1, 0, 0);
        wet.stone(1, false);
        Due.drops("a drop is lifted, and stays by 1", wet, 0, 1, 0, 0);
        wet.stone(1, false);
        Due.drops("flow behind a stone laid", wet, 0, 0, 0, 1);
        Due.is("shade and pump can be dug", Due.laid("s2,2;k0,1;k1,4;").stone(1, true), 4);
    }

    private static void undo() {
        PuddleStates p = Due.laid("s2,2;w0,1;");
        p.rain(4);
        p.shine(3);
        p.boot(0);
        p.stone(3, true);
        Due.is("undo a stone", p.undo(), 3);
        Due.is("its height", p.cell(3, 0), 5);
        Due.is("undo a boot", p.undo(), 2);
        Due.drops("behind 3 hours", p, 2, 1, 1, 1);
        Due.is("undo hours", p.undo(), 1);
        Due.is("no hour gone by", p.count(5), 0);
        Due.is("undo rain", p.undo(), 0);
        Due.drops("at first", p, 1, 0, 0, 0);
        Due.is("undo nothing", p.undo(), NO);
        Due.is("count(7)", p.count(7), 0);
        p.ring(0, 1);
        p.rain(1);
        Due.is("rings are not undone", p.undo() + p.count(6), 1);
        Due.is("the text is not undone", p.count(9), 10);
    }

    private static void undoStonesAndHours() {
        PuddleStates p = Due.laid("s2,2;h0,15;");
        for (int i = 1; i <= 10; i++) {
            Due.is("dug", p.stone(0, true), 15 - i);
        }
        for (int i = 1; i <= 8; i++) {
            p.undo();
            Due.is("height behind undo " + i, p.cell(0, 0), 5 + i);
        }
        Due.is("no more", p.undo(), NO);
        for (int i = 1; i <= 10; i++) {
            Due.is("hours", p.shine(i), i * (i + 1) / 2);
        }
        for (int i = 9; i >= 2; i--) {
            p.undo();
            Due.is("hours behind undo", p.count(5), i * (i + 1) / 2);
        }
        Due.is("no more", p.undo(), NO);
        Due.is("the height is not undone twice", p.cell(0, 0), 13);
    }

    private static void undoAll() {
        PuddleStates p = Due.laid("s2,2;");
        for (int i = 1; i <= 11; i++) {
            Due.is("rain " + i, p.rain(1), 4 * i);
            Due.is("can be undone", p.count(7), Math.min(8, i));
        }
        for (int i = 1; i <= 8; i++) {
            Due.is("undo " + i, p.undo(), 8 - i);
            Due.is("drops", p.count(4), 4 * (11 - i));
        }
        Due.is("the ninth", p.undo(), NO);
        Due.is("drops", p.count(4), 12);
        p.shine(20);
        Due.is("one more", p.count(7), 1);
        Due.is("undone", p.undo(), 0);
        Due.is("20 hours are undone as one", p.count(4) + p.count(5), 12);
    }
}
