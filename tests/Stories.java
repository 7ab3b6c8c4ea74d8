/** What has gone on in an object before a test asks it something; each ends far below 512 calls. */
final class Stories {
    /** Shade (no height left to dig), open, a tower that none can lay higher, a pump, a drain, a kerb. */
    static final String SQUARE = "s2,3;h0,0;k0,1;w0,9;h1,2;w1,4;h2,20;k3,4;h3,1;k4,2;h4,8;k5,3;";
    static final int CELLS = 6, SHADE = 0, OPEN = 1, TOWER = 2, PUMP = 3, DRAIN = 4, KERB = 5;
    /** 200 letters that can be laid, and 200 whose last item is cut. */
    static final String FULL_TEXT = "s2,2;" + "h1,2;".repeat(39);
    static final String FULL_FAULT = "s2,2;" + "h1,2;".repeat(38) + "h1,22";

    private Stories() {
    }

    static void lay(PuddleStates p, String text) {
        write(p, text);
        done(p.lay());
    }

    /** In place of what is written. */
    static void write(PuddleStates p, String text) {
        p.wipe();
        for (int i = 0; i < text.length(); i++) {
            done(p.write(text.charAt(i)));
        }
    }

    /** What a story tells goes on indeed: none of it is refused. */
    private static void done(int answer) {
        if (answer < 0) {
            throw new IllegalStateException("a story is refused: " + answer);
        }
    }

    static void nothing(PuddleStates p) {
    }

    static void laid(PuddleStates p) {
        lay(p, SQUARE);
    }

    /** Four things can be undone. */
    static void weather(PuddleStates p) {
        laid(p);
        someWeather(p);
    }

    static void someWeather(PuddleStates p) {
        done(p.rain(2));
        done(p.shine(3));
        done(p.boot(OPEN));
        done(p.stone(OPEN, false));
        done(p.ring(SHADE, 9));
    }

    static void someMore(PuddleStates p) {
        done(p.shine(1));
        done(p.rain(4));
        done(p.stone(PUMP, false));
    }

    /** Nothing more can be kept, and the ninth thing has gone on since it was laid. */
    static void fullWater(PuddleStates p) {
        laid(p);
        done(p.rain(2));
        done(p.shine(1));
        done(p.keep());
        done(p.stone(OPEN, false));
        done(p.boot(SHADE));
        done(p.shine(2));
        done(p.keep());
        done(p.rain(1));
        done(p.stone(OPEN, true));
        done(p.boot(OPEN));
        done(p.rain(3));
        done(p.shine(2));
    }

    /** Nor can a ring be added. */
    static void full(PuddleStates p) {
        fullWater(p);
        for (int i = 0; i < 6; i++) {
            done(p.ring(SHADE, p.cell(SHADE, 2)));
        }
    }

    static void fullText(PuddleStates p) {
        done(p.rain(1));
        lay(p, FULL_TEXT);
        done(p.rain(3));
        done(p.shine(1));
    }

    static void fullTextWithFault(PuddleStates p) {
        lay(p, "s2,2;w0,7;h3,1;");
        done(p.rain(3));
        done(p.shine(1));
        done(p.keep());
        done(p.ring(0, 4));
        write(p, FULL_FAULT);
    }

    static void faultyText(PuddleStates p) {
        weather(p);
        done(p.keep());
        write(p, "s2,2;w0,9;k1,3;h4,1;w1,1;");
    }
}
