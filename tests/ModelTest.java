import java.util.Random;

/** Long random runs of calls, the same at each time, on the class and on Model: all answers must be alike. */
final class ModelTest {
    private static final int RUNS = 120, CALLS = 512;

    private final Random random;
    private final Model model = new Model();
    private final PuddleStates puddles = new PuddleStates();
    private final int run;
    private int calls = 0;
    private int cells = 20;

    private ModelTest(int run) {
        this.run = run;
        random = new Random(run);
    }

    public static void main(String[] args) {
        for (int run = 0; run < RUNS && Due.wrongOnes() < 20; run++) {
            new ModelTest(run).go();
        }
        Due.end("ModelTest");
    }

    private void go() {
        while (calls < CALLS) {
            int kind = random.nextInt(100);
            if (calls == 0 && run % 10 != 0 || kind == 0 && calls < CALLS - 20) {
                newSquare();
            } else {
                one(random.nextInt(100));
            }
        }
    }

    private void is(String call, int got, int want) {
        calls++;
        Due.is("run " + run + ", call " + calls + ", " + call, got, want);
    }

    private void write(String letters) {
        for (int i = 0; i < letters.length() && calls < CALLS - 9; i++) {
            char letter = letters.charAt(i);
            is("write '" + letter + "'", puddles.write(letter), model.write(letter));
        }
    }

    private void newSquare() {
        is("wipe", puddles.wipe(), model.wipe());
        write(squareText());
        if (random.nextInt(6) == 0) {
            write("" + (char) (32 + random.nextInt(95)));
        }
        is("fault", puddles.fault(), model.fault());
        int laid = model.lay();
        is("lay", puddles.lay(), laid);
        cells = laid > 0 ? laid : cells;
    }

    private String squareText() {
        int rows = 2 + random.nextInt(5);
        int columns = 2 + random.nextInt(5);
        StringBuilder text = new StringBuilder();
        if (random.nextInt(8) > 0) {
            text.append('s').append(rows).append(',').append(columns).append(';');
        } else {
            rows = 4;
            columns = 5;
        }
        int span = random.nextInt(4) == 0 ? 21 : 8;
        int items = random.nextInt(30);
        for (int i = 0; i < items && text.length() < 190; i++) {
            int x = random.nextInt(rows * columns + (random.nextInt(100) == 0 ? 2 : 0));
            char letter = "hhhhhkkkww".charAt(random.nextInt(10));
            int number = letter == 'h' ? random.nextInt(span) : letter == 'k' ? random.nextInt(5) : random.nextInt(21);
            if (random.nextInt(150) == 0) {
                number = random.nextInt(100);
            }
            text.append(letter).append(x).append(',').append(number).append(';');
        }
        return text.substring(0, Math.min(text.length(), random.nextInt(40) == 0 ? random.nextInt(200) : 200));
    }

    private int x() {
        return random.nextInt(40) == 0 ? random.nextInt(cells + 4) - 2 : random.nextInt(cells);
    }

    /** A number of a range, seldom one just beyond it. */
    private int from(int least, int most) {
        int kind = random.nextInt(40);
        return kind == 0 ? least - 1 : kind == 1 ? most + 1 : least + random.nextInt(most - least + 1);
    }

    private void one(int kind) {
        if (kind < 34) {
            change(kind);
        } else if (kind < 80) {
            whatComes(kind);
        } else {
            rest(kind);
        }
    }

    private void change(int kind) {
        int x = x();
        if (kind < 8) {
            int k = from(1, 9);
            is("rain " + k, puddles.rain(k), model.rain(k));
        } else if (kind < 14) {
            int n = random.nextInt(5) == 0 ? from(1, 20) : from(1, 4);
            is("shine " + n, puddles.shine(n), model.shine(n));
        } else if (kind < 20) {
            is("boot " + x, puddles.boot(x), model.boot(x));
        } else if (kind < 27) {
            boolean dug = random.nextBoolean();
            is("stone " + x + " " + dug, puddles.stone(x, dug), model.stone(x, dug));
        } else if (kind < 31) {
            is("undo", puddles.undo(), model.undo());
        } else if (kind < 33) {
            is("keep", puddles.keep(), model.keep());
        } else {
            is("back", puddles.back(), model.back());
        }
    }

    private void whatComes(int kind) {
        int x = x();
        int y = x();
        int what = from(0, 1);
        if (kind < 42) {
            int n = from(0, 40);
            is("behind " + n + " " + x + " " + what, puddles.behind(n, x, what), model.behind(n, x, what));
        } else if (kind < 43) {
            is("dry " + what, puddles.dry(what), model.dry(what));
        } else if (kind < 49) {
            is("join " + x + " " + y, puddles.join(x, y), model.join(x, y));
        } else if (kind < 60) {
            is("part " + x + " " + y, puddles.part(x, y), model.part(x, y));
        } else if (kind < 71) {
            is("way " + x + " " + y, puddles.way(x, y), model.way(x, y));
        } else {
            int k = from(0, 9);
            is("kerb " + x + " " + y + " " + k, puddles.kerb(x, y, k), model.kerb(x, y, k));
        }
    }

    private void rest(int kind) {
        int x = x();
        int part = from(0, 1);
        if (kind < 83) {
            int v = random.nextBoolean() ? from(0, 60) : from(0, 6);
            is("ring " + x + " " + v, puddles.ring(x, v), model.ring(x, v));
        } else if (kind < 84) {
            is("forget", puddles.forget(), model.forget());
        } else if (kind < 86) {
            is("rains", puddles.rains(), model.rains());
        } else if (kind < 88) {
            is("sky " + x + " " + part, puddles.sky(x, part), model.sky(x, part));
        } else if (kind < 91) {
            int n = from(0, 6);
            int odds = from(0, 10);
            is("sun " + x + " " + n + " " + odds + " " + part, puddles.sun(x, n, odds, part),
                model.sun(x, n, odds, part));
        } else if (kind < 93) {
            int z = from(0, 9999);
            int n = from(1, 30);
            is("year " + z + " " + n + " " + part, puddles.year(z, n, part), model.year(z, n, part));
        } else if (kind < 96) {
            int what = from(0, 9);
            is("count " + what, puddles.count(what), model.count(what));
        } else {
            int what = from(0, 5);
            is("cell " + x + " " + what, puddles.cell(x, what), model.cell(x, what));
        }
    }
}
