/** "What it is" and promises 1 to 6, sentence by sentence, where a number or a case ends. */
final class EdgeTextTest {
    private static final int BAD = PuddleStates.BAD, NO = PuddleStates.NO;
    private static final int FULL = PuddleStates.FULL, NONE = PuddleStates.NONE;
    private static final String FIRST = "s4,5;h6,2;h7,3;h8,6;h11,1;h12,2;h3,4;h17,3;k4,1;k19,2;k9,3;k11,4;w7,3;";

    public static void main(String[] args) {
        newObject();
        mostCalls();
        writtenLetters();
        fullText();
        wipe();
        noText();
        itemsLetter();
        itemsFigures();
        itemsSigns();
        itemsNumbers();
        squares();
        squareFirst();
        lastSquare();
        cellsOfSquares();
        rowByRow();
        heights();
        kinds();
        firstDrops();
        noDropsInDrainAndKerb();
        firstFault();
        faultsOfFullTexts();
        layRefused();
        layStartsAnew();
        cell();
        Due.end("EdgeTextTest");
    }

    private static int faultOf(String text) {
        return Due.withText(text).fault();
    }

    private static void fault(String text, int due) {
        Due.is("fault() of '" + text + "'", faultOf(text), due);
    }

    private static void newObject() {
        Due.sentence("1: as told: laid at first, no text, no hour, no rings, nothing undone, kept");
        Twins.alike("a new object, and its text laid and wiped", Stories::nothing, p -> {
            Stories.lay(p, FIRST);
            p.wipe();
        });
        PuddleStates p = new PuddleStates();
        Due.is("wipe()", p.wipe(), 0);
        Due.is("forget()", p.forget(), 0);
        Due.is("undo()", p.undo(), NO);
        Due.is("back()", p.back(), NO);
        Due.is("rains()", p.rains(), Integer.MAX_VALUE);
        Due.is("shine(1)", p.shine(1), 1);
    }

    private static void mostCalls() {
        Due.sentence("An object is used for at most 512 calls: the last of them, too");
        PuddleStates sun = new PuddleStates();
        PuddleStates rain = new PuddleStates();
        PuddleStates letters = new PuddleStates();
        for (int i = 1; i <= 512; i++) {
            Due.is("shine(20), call " + i, sun.shine(20), 20 * i);
            // The kerb and the drain stay dry, the other 18 cells fill up, but those beside the drain (height 5).
            int drops = rain.rain(9);
            Due.is("rain(9), call " + i, drops >= 1 && drops <= 18 * 60 ? 1 : 0, 1);
            Due.is("write, call " + i, letters.write('h'), i <= 200 ? i : FULL);
        }
        String square = "s6,6;h0,20;k35,4;";
        PuddleStates dear = Due.laid(square);
        // Its letters and four more calls are behind it.
        for (int i = square.length() + 5; i <= 512; i++) {
            Due.is("year, call " + i, dear.year(9999, 30, 0), 1);
        }
    }

    private static void writtenLetters() {
        Due.sentence("2: a letter (32 to 126)");
        PuddleStates p = new PuddleStates();
        for (int letter = -130; letter <= 300; letter++) {
            boolean right = letter >= 32 && letter <= 126;
            Due.is("write(" + letter + ")", p.write(letter), right ? letter - 31 : BAD);
        }
        int[] far = {Integer.MIN_VALUE, Integer.MAX_VALUE, 's' + 65536, 's' - 65536, 's' + 256, -'s'};
        for (int letter : far) {
            Due.is("write(" + letter + ")", p.write(letter), BAD);
        }
        Due.is("count(9)", p.count(9), 95);
        for (int letter : new int[] {31, 127, -1, Integer.MAX_VALUE}) {
            Twins.unchanged("write(" + letter + ")", Stories::faultyText, BAD, q -> q.write(letter));
            Twins.unchanged("write(" + letter + ") into no text", Stories::nothing, BAD, q -> q.write(letter));
        }
    }

    private static void fullText() {
        Due.sentence("A TEXT is letters (200 at most); 2: FULL");
        PuddleStates p = new PuddleStates();
        for (int i = 1; i <= 200; i++) {
            Due.is("letter " + i, p.write(Stories.FULL_TEXT.charAt(i - 1)), i);
        }
        Due.is("letter 201", p.write(';'), FULL);
        Due.is("letter 202", p.write('s'), FULL);
        Due.is("BAD ahead of FULL", p.write(127), BAD);
        Due.is("BAD ahead of FULL", p.write(31), BAD);
        Due.is("count(9)", p.count(9), 200);
        Due.is("the full text has no fault", p.fault(), NONE);
        Due.is("and can be laid", p.lay(), 4);
        Twins.unchanged("a letter too many", Stories::fullText, FULL, q -> q.write('h'));
        Twins.unchanged("no letter", Stories::fullText, BAD, q -> q.write(127));
        Twins.unchanged("a ; behind a full text whose last item wants it", Stories::fullTextWithFault, FULL,
            q -> q.write(';'));
        Twins.unchanged("fault()", Stories::fullTextWithFault, 195, PuddleStates::fault);
        Twins.unchanged("lay()", Stories::fullTextWithFault, NO, PuddleStates::lay);
    }

    private static void wipe() {
        Due.sentence("3: THE TEXT is empty: how long it was");
        PuddleStates p = Due.withText("x");
        Due.is("wipe() of 1 letter", p.wipe(), 1);
        Due.is("wipe() of none", p.wipe(), 0);
        Due.write(p, Stories.FULL_TEXT);
        Due.is("wipe() of 200 letters", p.wipe(), 200);
        Due.is("count(9)", p.count(9), 0);
        Due.is("fault()", p.fault(), NONE);
        Due.is("lay()", p.lay(), NO);
        Due.is("the first letter again", p.write('h'), 1);
        Due.is("it stands alone", p.fault(), 0);
        Twins.unchanged("wipe() of no text", Stories::nothing, 0, PuddleStates::wipe);
        // All but the text stays.
        Twins.alike("wiped", q -> {
            Stories.weather(q);
            q.wipe();
        }, q -> {
            Stories.laid(q);
            q.wipe();
            Stories.someWeather(q);
        });
    }

    private static void noText() {
        Due.sentence("LAID is a TEXT without FAULT, not empty; 4: NONE; 5: NO");
        Twins.unchanged("fault() of no text", Stories::nothing, NONE, PuddleStates::fault);
        Twins.unchanged("lay() of no text", Stories::nothing, NO, PuddleStates::lay);
        Twins.unchanged("lay() of a text that is wiped", p -> {
            Stories.full(p);
            p.wipe();
        }, NO, PuddleStates::lay);
        Due.is("the shortest text that can be laid", Due.laid("h0,5;").count(0), 20);
    }

    private static void itemsLetter() {
        Due.sentence("ITEMS, each a letter: s, h, k, w");
        for (char letter = 32; letter <= 126; letter++) {
            boolean right = "shkw".indexOf(letter) >= 0;
            fault(letter + "2,2;", right ? NONE : 0);
            // Behind an item of a cell an s is none that may be told.
            fault("h0,0;" + letter + "2,2;", right && letter != 's' ? NONE : 5);
            fault(letter + "", 0);
        }
        fault("2,2;", 0);
        fault("hh2,2;", 0);
        fault("sh2,2;", 0);
        fault(" h2,2;", 0);
        fault("h2,2; ", 5);
    }

    private static void itemsFigures() {
        Due.sentence("numbers (one or two figures)");
        String[] right = {"h2,2;", "h02,2;", "h2,02;", "h02,02;", "h10,2;", "h2,10;", "h10,10;", "h0,0;", "h00,00;",
            "s2,2;", "s02,2;", "s2,02;", "s06,06;", "k2,02;", "k02,2;", "w2,02;", "w02,2;"};
        for (String text : right) {
            fault(text, NONE);
        }
        String[] wrong = {"h,2;", "h2,;", "h,;", "h002,2;", "h2,002;", "h000,0;", "h0,000;", "h100,2;", "h2,100;", "s,2;",
            "s2,;", "s002,2;", "s2,002;", "k,2;", "k2,;", "k002,2;", "k2,002;", "w,2;", "w2,;", "w002,2;", "w2,002;"};
        for (String text : wrong) {
            fault(text, 0);
            fault("s2,2;" + text, 5);
        }
    }

    /** Any of the 95 letters at each place of an item. */
    private static void itemsSigns() {
        Due.sentence("numbers parted by , and a ; behind the last one");
        for (char c = 32; c <= 126; c++) {
            boolean figure = c >= '0' && c <= '9';
            fault("h" + c + ",2;", figure ? NONE : 0);
            fault("h1" + c + ",2;", figure ? NONE : 0);
            fault("h1" + c + "2;", c == ',' ? NONE : 0);
            fault("h1," + c + ";", figure ? NONE : 0);
            fault("h1," + c + "2;", c == '0' || c == '1' ? NONE : 0);
            fault("h1,2" + c + ";", c == '0' ? NONE : c == ';' ? 5 : 0);
            fault("h1,2" + c, c == ';' ? NONE : 0);
            fault("h1,2" + c + "h1,2;", c == ';' ? NONE : 0);
        }
    }

    private static void itemsNumbers() {
        Due.sentence("two numbers each, the last item ended, too");
        String[] wrong = {"s2;", "h2;", "k2;", "w2;", "s2,2,2;", "h2,2,2;", "k2,2,2;", "w2,2,2;", "s;", "h;", "s2,2,;",
            "h2,2,;", "s,2,2;", "h,2,2;", ";", ",", "h2,2", "h2,", "h2", "h", "s2,2", "s2,", "s2", "s", "h2,,2;", "h2;2;"};
        for (String text : wrong) {
            fault(text, 0);
            fault("s2,2;s3,3;" + text, 10);
            fault("s3,3;w8,2;" + text, 10);
        }
        fault("h2,2;;", 5);
        fault("s2,2;;", 5);
    }

    private static void squares() {
        Due.sentence("R rows of C CELLS (2 to 6 each)");
        for (int rows = 0; rows <= 99; rows++) {
            for (int columns = 0; columns <= (rows <= 8 ? 99 : 4); columns++) {
                boolean right = rows >= 2 && rows <= 6 && columns >= 2 && columns <= 6;
                String text = "s" + rows + "," + columns + ";";
                fault(text, right ? NONE : 0);
                if (right) {
                    PuddleStates p = Due.withText(text);
                    Due.is("lay() of " + text, p.lay(), rows * columns);
                    Due.is("count(0)", p.count(0), rows * columns);
                    Due.is("count(1)", p.count(1), rows);
                    Due.is("the last cell", p.cell(rows * columns - 1, 0), 5);
                    Due.is("no cell behind it", p.cell(rows * columns, 0), BAD);
                }
            }
        }
        Due.sentence("4, 5 without");
        fault("h19,1;", NONE);
        fault("h20,1;", 0);
        Due.is("cells", Due.laid("k19,1;").count(0), 20);
        Due.is("rows", Due.laid("w19,1;").count(1), 4);
    }

    private static void squareFirst() {
        Due.sentence("no other ITEM ahead of it but s");
        for (String ahead : new String[] {"h0,1;", "k0,1;", "w0,1;", "h0,5;", "k0,0;", "w0,0;"}) {
            fault(ahead + "s4,5;", 5);
            fault("s4,5;" + ahead + "s4,5;", 10);
            fault("s4,5;" + ahead + ahead, NONE);
            Due.is("lay()", Due.withText(ahead + "s2,2;").lay(), NO);
        }
        // Both are at fault: the s where it stands, and its number; the item ahead of it stays the first fault.
        fault("h0,1;s9,9;", 5);
        fault("h0,21;s2,2;", 0);
    }

    private static void lastSquare() {
        Due.sentence("of several s the last one counts");
        fault("s6,6;s2,2;h3,1;", NONE);
        fault("s6,6;s2,2;h4,1;", 10);
        fault("s2,2;s6,6;h35,1;", NONE);
        fault("s2,2;s6,6;h36,1;", 10);
        fault("s2,2;s7,2;s2,2;", 5);
        fault("s1,2;s2,2;", 0);
        PuddleStates p = Due.laid("s6,6;s3,3;s2,5;");
        Due.is("cells", p.count(0), 10);
        Due.is("rows", p.count(1), 2);
        Due.is("two alike", Due.laid("s2,3;s2,3;").count(0), 6);
        Due.is("40 of them", Due.laid("s2,2;".repeat(39) + "s6,5;").count(0), 30);
    }

    private static void cellsOfSquares() {
        Due.sentence("CELL X: CELLS such as there are");
        for (int rows = 2; rows <= 6; rows++) {
            for (int columns = 2; columns <= 6; columns++) {
                int cells = rows * columns;
                String square = "s" + rows + "," + columns + ";";
                for (char letter : "hkw".toCharArray()) {
                    fault(square + letter + "0,1;", NONE);
                    fault(square + letter + (cells - 1) + ",1;", NONE);
                    fault(square + letter + cells + ",1;", 5);
                    fault(square + letter + "99,1;", 5);
                }
            }
        }
    }

    private static void rowByRow() {
        Due.sentence("CELL 0 is the first of the first row, then along it, row by row");
        // A tower that is wet, in each cell of the square in turn: its drop falls down, else right, else up.
        int rows = 3;
        int columns = 4;
        for (int x = 0; x < rows * columns; x++) {
            PuddleStates p = Due.laid("s3,4;h" + x + ",9;w" + x + ",1;");
            int row = x / columns;
            int to = row > 0 ? x - columns : x + columns;
            Due.is("the drop of " + x, p.cell(to, 2), 1);
            Due.is("all drops", p.count(4), 1);
        }
        PuddleStates wrap = Due.laid("s3,3;w2,1;w3,1;w5,1;w6,1;h0,20;h1,20;h4,20;h7,20;h8,20;");
        Due.is("5 hangs together with 2", wrap.cell(5, 3), 2);
        Due.is("6 with 3", wrap.cell(6, 3), 3);
        Due.is("a row's end, not with the next row's start", wrap.count(3), 2);
    }

    private static void heights() {
        Due.sentence("H (0 to 20)");
        for (int height = 0; height <= 99; height++) {
            fault("h3," + height + ";", height <= 20 ? NONE : 0);
            if (height <= 20) {
                Due.is("height", Due.laid("h3," + height + ";").cell(3, 0), height);
            }
        }
        Due.sentence("5 without; the last one of each");
        PuddleStates p = Due.laid("s2,2;h0,20;h3,1;h0,0;h3,20;h1,5;h3,7;");
        int[] due = {0, 5, 5, 7};
        for (int x = 0; x < 4; x++) {
            Due.is("height of " + x, p.cell(x, 0), due[x]);
        }
        Due.sentence("any kind of CELL is so high");
        PuddleStates kinds = Due.laid("s2,3;k1,1;k2,2;k3,3;k4,4;h0,1;h1,2;h2,3;h3,4;h4,6;");
        int[] high = {1, 2, 3, 4, 6, 5};
        for (int x = 0; x < 6; x++) {
            Due.is("height of " + x, kinds.cell(x, 0), high[x]);
        }
    }

    private static void kinds() {
        Due.sentence("KIND K (0 OPEN, 1 SHADE, 2 DRAIN, 3 KERB, 4 PUMP)");
        for (int kind = 0; kind <= 99; kind++) {
            fault("k3," + kind + ";", kind <= 4 ? NONE : 0);
            if (kind <= 4) {
                PuddleStates p = Due.laid("k3," + kind + ";");
                Due.is("kind", p.cell(3, 1), kind);
                // Two hours of sun: one drop of shade dries in the second one alone.
                p.rain(1);
                Due.is("rain takes", p.cell(3, 2), kind == 2 || kind == 3 ? 0 : 1);
                Due.is("behind 1 hour", p.behind(1, 3, 0), kind == 1 || kind == 4 ? 1 : 0);
                Due.is("behind 2 hours", p.behind(2, 3, 0), kind == 4 ? 1 : 0);
            }
        }
        Due.sentence("0 without; the last one of each");
        PuddleStates p = Due.laid("s2,2;k0,3;k1,1;k0,0;k3,2;k1,4;k3,3;");
        int[] due = {0, 4, 0, 3};
        for (int x = 0; x < 4; x++) {
            Due.is("kind of " + x, p.cell(x, 1), due[x]);
        }
    }

    private static void firstDrops() {
        Due.sentence("W (0 to 20) drops at first");
        for (int drops = 0; drops <= 99; drops++) {
            fault("w3," + drops + ";", drops <= 20 ? NONE : 0);
            if (drops <= 20) {
                Due.is("drops", Due.laid("s2,2;k1,3;k2,3;w3," + drops + ";").cell(3, 2), drops);
            }
        }
        Due.sentence("0 without; the last one of each");
        Due.drops("told twice", Due.laid("s2,2;k1,3;k2,3;w0,20;w3,1;w0,2;w3,20;"), 2, 0, 0, 20);
        Due.drops("told back", Due.laid("s2,2;k1,3;k2,3;w0,20;w3,1;w0,0;"), 0, 0, 0, 1);
        Due.is("told of none", Due.laid("s6,6;h35,1;").count(4), 0);
    }

    private static void noDropsInDrainAndKerb() {
        Due.sentence("in a DRAIN, a KERB none, whatever is told");
        for (int kind = 0; kind <= 4; kind++) {
            int due = kind == 2 || kind == 3 ? 0 : 9;
            // All round it is a kerb: nothing flows.
            for (String told : new String[] {"k0," + kind + ";w0,9;", "w0,9;k0," + kind + ";"}) {
                PuddleStates p = Due.laid("s2,2;k1,3;k2,3;" + told);
                Due.is("drops, " + told, p.cell(0, 2), due);
                Due.is("drops in all, " + told, p.count(4), due);
                Due.is("a state, " + told, p.cell(0, 3), due == 0 ? NONE : 0);
            }
        }
        Due.is("a kerb for a while", Due.laid("s2,2;k1,3;k2,3;k0,3;w0,9;k0,0;").cell(0, 2), 9);
        Due.is("a drain for a while", Due.laid("s2,2;k1,3;k2,3;w0,9;k0,2;k0,4;").cell(0, 2), 9);
        // Had the kerb its drops ahead of the flow, they would be cell 2's now.
        Due.is("none flow out of it", Due.laid("s2,2;k0,3;h0,20;w0,20;").count(4), 0);
    }

    private static void firstFault() {
        Due.sentence("FAULT: the place of the first letter of the first ITEM that is not so");
        fault("x1,1;", 0);
        fault("s2,2;x1,1;", 5);
        fault("s2,2;h0,21;h0,22;", 5);
        fault("s2,2;h00,20;h0,22;x", 12);
        fault("s02,02;h00,20;k03,04;w03,20;w03,21;", 28);
        fault("s2,2;k3,4;k3,5;", 10);
        fault("h0,1;h0,1;h0,1;w20,1;h0,99;", 15);
        Twins.unchanged("fault()", Stories::faultyText, 15, PuddleStates::fault);
        Twins.unchanged("fault() of a text without one", Stories::weather, NONE, PuddleStates::fault);
    }

    private static void faultsOfFullTexts() {
        Due.sentence("the first ITEM at fault, in a full TEXT");
        fault(Stories.FULL_TEXT, NONE);
        fault(Stories.FULL_FAULT, 195);
        fault("x" + Stories.FULL_TEXT.substring(1), 0);
        // 29 items of 5 letters and 9 of 6 are 199 letters: the last one stands alone.
        String ahead = "h1,2;".repeat(29) + "h10,2;".repeat(9);
        fault(ahead, NONE);
        fault(ahead + "h", 199);
        fault(ahead + ";", 199);
        Due.is("lay()", Due.withText(ahead + "h").lay(), NO);
        Due.is("lay() of 199 letters", Due.withText(ahead).lay(), 20);
        fault("h1,2;".repeat(38) + "h1,2,3,4,5", 190);
        fault("h".repeat(200), 0);
        fault(";".repeat(200), 0);
        fault("1".repeat(200), 0);
    }

    private static void layRefused() {
        Due.sentence("5: NO, and nothing changes then");
        Twins.unchanged("lay() of a text with a fault", Stories::faultyText, NO, PuddleStates::lay);
        Twins.unchanged("lay() of a text cut short", p -> {
            Stories.weather(p);
            Stories.write(p, "s6,6;h35,9");
        }, NO, PuddleStates::lay);
        Twins.unchanged("lay() of one letter", p -> {
            Stories.full(p);
            Stories.write(p, " ");
        }, NO, PuddleStates::lay);
    }

    private static void layStartsAnew() {
        Due.sentence("5: how many CELLS; no HOUR gone by, no RINGS, nothing UNDONE, KEPT; THE TEXT stays");
        Twins.alike("laid anew", p -> {
            Stories.full(p);
            p.lay();
        }, Stories::laid);
        Twins.alike("laid behind calls that look ahead", p -> {
            Stories.full(p);
            p.year(9999, 30, 0);
            p.behind(39, 0, 0);
            p.lay();
        }, Stories::laid);
        Twins.alike("laid twice", p -> {
            Stories.laid(p);
            p.lay();
        }, Stories::laid);
        Twins.alike("another one laid", p -> {
            Stories.full(p);
            Stories.lay(p, "h1,6;");
        }, p -> Stories.lay(p, "h1,6;"));
        PuddleStates p = Due.laid("s2,2;k0,1;w0,2;k1,3;k2,3;");
        p.shine(1);
        p.lay();
        p.shine(1);
        Due.is("the first hour again", p.cell(0, 2), 2);
        Due.is("count(5)", p.count(5), 1);
        Due.is("count(9)", p.count(9), 25);
        Due.sentence("5: LAID, then FLOW");
        Due.drops("laid", Due.laid("s2,2;w0,20;"), 6, 5, 5, 4);
    }

    private static void cell() {
        Due.sentence("6: height (0), KIND (1), drops (2), STATE (3; NONE), how many CELLS that has (4; 0), DEPTH (5)");
        PuddleStates p = Due.laid("s2,3;k1,1;k4,3;w0,3;w1,3;w3,3;h2,20;k5,2;h5,7;");
        int[][] due = {{5, 0, 3, 0, 3, 3}, {5, 1, 3, 0, 3, 3}, {20, 0, 0, NONE, 0, 0}, {5, 0, 3, 0, 3, 3},
            {5, 3, 0, NONE, 0, 0}, {7, 2, 0, NONE, 0, 0}};
        for (int x = 0; x < 6; x++) {
            for (int what = 0; what <= 5; what++) {
                Due.is("cell(" + x + ", " + what + ")", p.cell(x, what), due[x][what]);
            }
        }
        PuddleStates all = Due.laid("s6,6;");
        all.rain(1);
        Due.is("36 cells of one state", all.cell(35, 4), 36);
        Due.is("called by its lowest", all.cell(35, 3), 0);
        PuddleStates one = Due.laid("s6,6;h35,0;w35,5;");
        Due.is("one cell alone", one.cell(35, 4), 1);
        Due.is("called by itself", one.cell(35, 3), 35);
        Due.sentence("6: BAD, ahead of NONE");
        int[][] wrong = {{-1, 0}, {6, 0}, {Integer.MIN_VALUE, 3}, {Integer.MAX_VALUE, 3}, {0, -1}, {0, 6}, {2, 6},
            {2, -1}, {6, 3}, {35, 0}, {36, 0}, {0, Integer.MAX_VALUE}, {0, Integer.MIN_VALUE}, {6, 6}};
        for (int[] w : wrong) {
            Twins.unchanged("cell(" + w[0] + ", " + w[1] + ")", Stories::full, BAD, q -> q.cell(w[0], w[1]));
        }
        for (int what = 0; what <= 5; what++) {
            int asked = what;
            int is = Due.laid(Stories.SQUARE).cell(2, what);
            Twins.unchanged("cell(2, " + what + ")", Stories::laid, is, q -> q.cell(2, asked));
        }
    }
}
