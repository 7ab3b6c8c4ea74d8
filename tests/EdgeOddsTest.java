import java.math.BigInteger;

/** Promises 18 to 26 (RING, RAINS, SKY, SUN, YEAR, KEPT, counts), sentence by sentence, where a number or a case ends. */
final class EdgeOddsTest {
    private static final int BAD = PuddleStates.BAD, NO = PuddleStates.NO;
    private static final int FULL = PuddleStates.FULL, NONE = PuddleStates.NONE;
    private static final int MIN = Integer.MIN_VALUE, MAX = Integer.MAX_VALUE;
    /** Cell 0 alone, the other three are kerbs. */
    private static final String ALONE = "s2,2;k1,3;k2,3;k3,3;";

    public static void main(String[] args) {
        ringsDrops();
        ringsFull();
        forget();
        rainsBits();
        rainsAll();
        rainsOfNow();
        sky();
        skyNone();
        sunOdds();
        sunHours();
        sunOfNow();
        sunRefused();
        yearsDays();
        yearsWeather();
        yearRefused();
        keepFull();
        keptIsAll();
        keptNot();
        backLast();
        backRefused();
        counts();
        countRefused();
        Due.end("EdgeOddsTest");
    }

    private static void bad(String name, Twins.Call call) {
        Twins.unchanged(name, Stories::full, BAD, call);
        Twins.unchanged(name + ", less gone on", Stories::weather, BAD, call);
    }

    private static void ringsDrops() {
        Due.sentence("RING: a CELL has v drops (0 to 60); BAD");
        for (int v = -5; v <= 65; v++) {
            PuddleStates p = Due.laid(ALONE);
            boolean right = v >= 0 && v <= 60;
            Due.is("ring(0, " + v + ")", p.ring(0, v), right ? 1 : BAD);
            Due.is("rings", p.count(6), right ? 1 : 0);
            Due.is("rains()", p.rains(), !right ? MAX : v <= 30 ? 1 << v : 0);
        }
        int[][] wrong = {{0, -1}, {0, 61}, {0, MIN}, {0, MAX}, {-1, 0}, {6, 0}, {35, 0}, {36, 0}, {MIN, 0}, {MAX, 0}, {-1, -1},
            {6, 61}};
        for (int[] w : wrong) {
            bad("ring(" + w[0] + ", " + w[1] + ")", p -> p.ring(w[0], w[1]));
        }
        PuddleStates all = Due.laid("s6,6;");
        Due.is("the last cell", all.ring(35, 60), 1);
        Due.is("the one behind it", all.ring(36, 60), BAD);
    }

    private static void ringsFull() {
        Due.sentence("RING (6 at most); 18: how many; BAD; FULL");
        PuddleStates p = Due.laid(ALONE);
        for (int i = 1; i <= 6; i++) {
            Due.is("ring " + i, p.ring(0, 7), i);
            Due.is("count(6)", p.count(6), i);
        }
        Due.is("the seventh", p.ring(0, 7), FULL);
        Due.is("the eighth", p.ring(0, 7), FULL);
        Due.is("BAD ahead of FULL", p.ring(0, 61), BAD);
        Due.is("BAD ahead of FULL", p.ring(4, 7), BAD);
        Due.is("BAD ahead of FULL", p.ring(-1, -1), BAD);
        Due.is("count(6)", p.count(6), 6);
        Due.is("by the six alone", p.rains(), 1 << 7);
        Twins.unchanged("a ring too many", Stories::full, FULL, q -> q.ring(0, 0));
        Twins.unchanged("a ring too many", Stories::full, FULL, q -> q.ring(5, 60));
        // Each of the six counts, the last one, too.
        for (int odd = 0; odd < 6; odd++) {
            PuddleStates q = Due.laid(ALONE);
            for (int i = 0; i < 6; i++) {
                q.ring(0, i == odd ? 8 : 7);
            }
            Due.is("ring " + odd + " is another", q.rains(), 0);
        }
        Due.is("a kerb has none", Due.laid(ALONE).ring(3, 0), 1);
    }

    private static void forget() {
        Due.sentence("19: no RINGS: how many there were");
        for (int many = 0; many <= 6; many++) {
            PuddleStates p = Due.laid(ALONE);
            for (int i = 0; i < many; i++) {
                p.ring(0, i);
            }
            Due.is("forget()", p.forget(), many);
            Due.is("count(6)", p.count(6), 0);
            Due.is("rains()", p.rains(), MAX);
            Due.is("forget() again", p.forget(), 0);
            for (int i = 1; i <= 6; i++) {
                Due.is("ring " + i, p.ring(0, 3), i);
            }
            Due.is("the seventh", p.ring(0, 3), FULL);
            Due.is("by those alone", p.rains(), 1 << 3);
        }
        Twins.unchanged("forget() of none", Stories::nothing, 0, PuddleStates::forget);
        Twins.alike("all but rings stays", p -> {
            Stories.full(p);
            p.forget();
        }, Stories::fullWater);
    }

    private static void rainsBits() {
        Due.sentence("RAINS: those (bits 0 to 30) by which all RINGS would be so");
        PuddleStates p = Due.laid(ALONE);
        Due.is("no ring: all 31", p.rains(), MAX);
        Due.is("ring(0, 0)", p.ring(0, 0), 1);
        Due.is("bit 0", p.rains(), 1);
        p.forget();
        p.ring(0, 30);
        Due.is("bit 30", p.rains(), 1 << 30);
        p.forget();
        p.ring(0, 31);
        Due.is("no bit 31", p.rains(), 0);
        p.forget();
        p.ring(1, 0);
        Due.is("a kerb, by all 31", p.rains(), MAX);
        p.ring(0, 10);
        Due.is("one of them", p.rains(), 1 << 10);
        p.forget();
        p.ring(1, 1);
        Due.is("a kerb, by none", p.rains(), 0);
        PuddleStates full = Due.laid(ALONE + "w0,20;");
        full.rain(9);
        full.rain(1);
        full.ring(0, 60);
        Due.is("30 and 30: bit 30 alone", full.rains(), 1 << 30);
        full.rain(1);
        Due.is("31 and 29, 30", full.rains(), 3 << 29);
    }

    private static void rainsAll() {
        Due.sentence("by which all RINGS would be so");
        PuddleStates p = Due.laid("s2,2;k1,3;k2,3;w0,4;");
        p.ring(0, 9);
        p.ring(3, 5);
        Due.is("9 and 5, by 5", p.rains(), 1 << 5);
        p.ring(3, 6);
        Due.is("5 and 6", p.rains(), 0);
        // A cell beside a drain keeps what stands no higher than it: so by every rain from 3 on.
        PuddleStates drain = Due.laid("s2,2;k2,3;k3,3;k1,2;h1,8;");
        for (int v = 0; v <= 4; v++) {
            drain.forget();
            drain.ring(0, v);
            Due.is("beside a drain, " + v, drain.rains(), v < 3 ? 1 << v : v == 3 ? MAX - 7 : 0);
        }
        // By flow, not by rain alone: the other cell is lower by 4.
        PuddleStates flow = Due.laid("s2,2;k2,3;k3,3;h0,9;");
        flow.ring(0, 1);
        flow.ring(1, 5);
        Due.is("6 drops, 1 and 5", flow.rains(), 1 << 3);
        // Six rains of 1 leave 5, 5, 5 and 9.
        PuddleStates once = Due.laid("s2,2;h2,4;h3,0;");
        once.ring(1, 4);
        once.ring(2, 6);
        Due.is("one RAIN of 6, not several", once.rains(), 1 << 6);
    }

    private static void rainsOfNow() {
        Due.sentence("behind one RAIN from now (now: as it stands when that is asked)");
        PuddleStates p = Due.laid(ALONE);
        p.ring(0, 12);
        for (int drops = 0; drops <= 14; drops++) {
            Due.is(drops + " drops", p.rains(), drops <= 12 ? 1 << 12 - drops : 0);
            p.rain(1);
        }
        p.undo();
        p.undo();
        p.undo();
        Due.is("12 drops again", p.rains(), 1);
        p.shine(3);
        Due.is("9 drops", p.rains(), 1 << 3);
        p.keep();
        p.rain(9);
        p.back();
        Due.is("9 drops, kept", p.rains(), 1 << 3);
        Twins.unchanged("rains()", Stories::weather, weathersRains(), PuddleStates::rains);
        Twins.unchanged("rains() of six", Stories::full, 1, PuddleStates::rains);
        Twins.unchanged("rains() of none", Stories::laid, MAX, PuddleStates::rains);
    }

    private static int weathersRains() {
        PuddleStates p = new PuddleStates();
        Stories.weather(p);
        return p.rains();
    }

    /** Two states in a row of 6: one of some cells, then a tower, then the rest. */
    private static void sky() {
        Due.sentence("SKY of a STATE: its CELLS by all CELLS that have drops, in lowest terms");
        int[][] due = {{1, 5}, {1, 2}, {3, 5}, {4, 5}};
        String[] first = {"0", "01", "012", "0123"};
        String[] squares = {"s2,6;h1,20;w0,1;w2,1;w3,1;w4,1;w5,1;", "s2,6;h2,20;w0,1;w1,1;w3,1;w4,1;",
            "s2,6;h3,20;w0,1;w1,1;w2,1;w4,1;w5,1;", "s2,6;h4,20;w0,1;w1,1;w2,1;w3,1;w5,1;"};
        for (int i = 0; i < squares.length; i++) {
            PuddleStates p = Due.laid(squares[i]);
            for (char c : first[i].toCharArray()) {
                Due.is("sky(" + c + ", 0) of " + squares[i], p.sky(c - '0', 0), due[i][0]);
                Due.is("sky(" + c + ", 1) of " + squares[i], p.sky(c - '0', 1), due[i][1]);
            }
        }
        PuddleStates all = Due.laid("s6,6;");
        all.rain(1);
        Due.is("36 of 36, above", all.sky(35, 0), 1);
        Due.is("36 of 36, below", all.sky(35, 1), 1);
        PuddleStates one = Due.laid("s6,6;w35,1;");
        Due.is("1 of 1, above", one.sky(35, 0), 1);
        Due.is("1 of 1, below", one.sky(35, 1), 1);
        PuddleStates thirds = Due.laid("s2,6;w0,1;w2,1;w4,1;w7,1;w9,1;w11,1;");
        Due.is("1 of 6, above", thirds.sky(11, 0), 1);
        Due.is("1 of 6, below", thirds.sky(11, 1), 6);
        PuddleStates pairs = Due.laid("s2,6;w0,1;w1,1;w3,1;w5,1;w8,1;w10,1;");
        Due.is("2 of 6, above", pairs.sky(1, 0), 1);
        Due.is("2 of 6, below", pairs.sky(1, 1), 3);
    }

    private static void skyNone() {
        Due.sentence("21: none (dry); BAD, ahead of NONE");
        PuddleStates p = Due.laid("s2,2;w0,1;k3,3;");
        for (int x = 1; x <= 3; x++) {
            Due.is("sky(" + x + ", 0)", p.sky(x, 0), NONE);
            Due.is("sky(" + x + ", 1)", p.sky(x, 1), NONE);
        }
        Due.is("all dry", Due.laid("s2,2;").sky(0, 1), NONE);
        int[][] wrong = {{0, -1}, {0, 2}, {0, MIN}, {0, MAX}, {-1, 0}, {6, 0}, {35, 0}, {36, 0}, {MIN, 0}, {MAX, 0},
            {Stories.KERB, 2}, {Stories.KERB, -1}, {6, 2}};
        for (int[] w : wrong) {
            bad("sky(" + w[0] + ", " + w[1] + ")", q -> q.sky(w[0], w[1]));
        }
        Twins.unchanged("sky(5, 0)", Stories::full, NONE, q -> q.sky(5, 0));
        Twins.unchanged("sky(5, 1)", Stories::full, NONE, q -> q.sky(5, 1));
        Twins.unchanged("sky(0, 1), one state", Stories::full, 1, q -> q.sky(0, 1));
        Due.is("the last cell", Due.laid("s6,6;").sky(35, 0), NONE);
        Due.is("the one behind it", Due.laid("s6,6;").sky(36, 0), BAD);
    }

    private static void sunIs(PuddleStates p, int x, int n, int odds, BigInteger above) {
        BigInteger below = BigInteger.TEN.pow(n);
        BigInteger common = above.gcd(below);
        String call = "sun(" + x + ", " + n + ", " + odds + ", ";
        Due.is(call + "0)", p.sun(x, n, odds, 0), above.divide(common).intValueExact());
        Due.is(call + "1)", p.sun(x, n, odds, 1), below.divide(common).intValueExact());
    }

    /** A cell of d drops has some if fewer than d of n hours were sunny. */
    private static BigInteger fewerThan(int drops, int n, int odds) {
        BigInteger sum = BigInteger.ZERO;
        BigInteger ways = BigInteger.ONE;
        for (int sunny = 0; sunny <= n; sunny++) {
            if (sunny < drops) {
                BigInteger each = BigInteger.valueOf(odds).pow(sunny).multiply(BigInteger.valueOf(10 - odds).pow(n - sunny));
                sum = sum.add(each.multiply(ways));
            }
            ways = ways.multiply(BigInteger.valueOf(n - sunny)).divide(BigInteger.valueOf(sunny + 1));
        }
        return sum;
    }

    private static void sunOdds() {
        Due.sentence("SUN: n (0 to 6) times an HOUR by x (0 to 10) of ten: the chance of drops, in lowest terms");
        for (int drops = 0; drops <= 8; drops++) {
            for (int n = 0; n <= 6; n++) {
                PuddleStates p = Due.laid(ALONE + "w0," + drops + ";");
                for (int odds = 0; odds <= 10; odds++) {
                    sunIs(p, 0, n, odds, fewerThan(drops, n, odds));
                }
            }
        }
        PuddleStates dry = Due.laid("s2,2;");
        for (int n = 0; n <= 6; n++) {
            for (int odds = 0; odds <= 10; odds += 5) {
                Due.is("dry, above", dry.sun(3, n, odds, 0), 0);
                Due.is("dry, below", dry.sun(3, n, odds, 1), 1);
            }
        }
        PuddleStates one = Due.laid(ALONE + "w0,1;");
        Due.is("9 of ten, six times: below", one.sun(0, 6, 9, 1), 1000000);
        Due.is("1 of ten, six times: above", one.sun(0, 6, 1, 0), 531441);
        Due.is("5 of ten, six times: below", one.sun(0, 6, 5, 1), 64);
    }

    private static void sunHours() {
        Due.sentence("an HOUR of sun goes by, else nothing");
        // The second hour that goes by dries the shade: two of n, whenever they come.
        PuddleStates shade = Due.laid(ALONE + "k0,1;w0,1;");
        // A dry pump has a drop if one hour of n went by.
        PuddleStates pump = Due.laid(ALONE + "k0,4;");
        for (int n = 0; n <= 6; n++) {
            for (int odds = 0; odds <= 10; odds++) {
                sunIs(shade, 0, n, odds, fewerThan(2, n, odds));
                sunIs(pump, 0, n, odds, BigInteger.TEN.pow(n).subtract(fewerThan(1, n, odds)));
                sunIs(pump, 3, n, odds, BigInteger.ZERO);
            }
        }
    }

    private static void sunOfNow() {
        Due.sentence("from now on");
        PuddleStates p = Due.laid(ALONE + "k0,1;w0,2;");
        for (int hours = 0; hours <= 4; hours++) {
            // It is dry behind the fourth hour of all.
            for (int odds = 0; odds <= 10; odds++) {
                sunIs(p, 0, 3, odds, fewerThan(4 - hours, 3, odds));
            }
            p.shine(1);
        }
        Twins.unchanged("sun()", Stories::full, 1, q -> q.sun(0, 6, 5, 0));
        Twins.unchanged("sun() of a kerb", Stories::full, 0, q -> q.sun(5, 6, 10, 0));
        Due.is("the last cell", Due.laid("s6,6;w35,1;").sun(35, 1, 5, 1), 2);
    }

    private static void sunRefused() {
        Due.sentence("22: BAD");
        int[][] wrong = {{-1, 0, 0, 0}, {6, 0, 0, 0}, {36, 0, 0, 0}, {MIN, 0, 0, 0}, {MAX, 0, 0, 0}, {0, -1, 0, 0}, {0, 7, 0, 0},
            {0, 8, 5, 1}, {0, MIN, 0, 0}, {0, MAX, 0, 0}, {0, 0, -1, 0}, {0, 0, 11, 0}, {0, 6, 11, 1}, {0, 0, MIN, 0},
            {0, 0, MAX, 0}, {0, 0, 0, -1}, {0, 0, 0, 2}, {0, 6, 10, 2}, {0, 0, 0, MIN}, {0, 0, 0, MAX}, {6, 7, 11, 2}};
        for (int[] w : wrong) {
            bad("sun(" + w[0] + ", " + w[1] + ", " + w[2] + ", " + w[3] + ")", p -> p.sun(w[0], w[1], w[2], w[3]));
        }
        Due.is("sun(36, ..) of 36 cells", Due.laid("s6,6;").sun(36, 0, 0, 0), BAD);
    }

    private static long draw(int z, int k) {
        BigInteger x = BigInteger.valueOf(7919).multiply(BigInteger.valueOf(z))
            .add(BigInteger.valueOf(6151).multiply(BigInteger.valueOf(k))).add(BigInteger.ONE);
        return x.multiply(x).mod(BigInteger.valueOf(65521)).longValueExact() / 8;
    }

    private static void yearsDays() {
        Due.sentence("A YEAR by z (0 to 9999) of n (1 to 30) days: STATES (0), drops (1)");
        for (int z : new int[] {0, 1, 2, 3, 17, 123, 4567, 9997, 9998, 9999}) {
            PuddleStates asked = new PuddleStates();
            PuddleStates lived = new PuddleStates();
            asked.rain(3);
            lived.rain(3);
            for (int n = 1; n <= 30; n++) {
                long draw = draw(z, n - 1);
                if (draw % 4 > 0) {
                    lived.rain((int) (draw % 4));
                }
                if (draw / 4 % 4 > 0) {
                    lived.shine((int) (draw / 4 % 4));
                }
                Due.is("year(" + z + ", " + n + ", 0)", asked.year(z, n, 0), lived.count(3));
                Due.is("year(" + z + ", " + n + ", 1)", asked.year(z, n, 1), lived.count(4));
            }
        }
    }

    private static void yearsWeather() {
        Due.sentence("on the k-th (0 first) RAIN of DRAW modulo 4 (0: none), then (DRAW by 4, cut) modulo 4 HOURS");
        PuddleStates p = Due.laid(ALONE + "w0,9;");
        // Year 0: 1 by 8, cut, is 0. 6152 times itself is 37847104, modulo 65521 it is 41487, by 8 5185: 1, then 0.
        Due.is("year(0, 1, 1): neither", p.year(0, 1, 1), 9);
        Due.is("year(0, 2, 1): a rain of 1", p.year(0, 2, 1), 10);
        boolean[] seen = new boolean[16];
        for (int z = 0; z <= 9999; z++) {
            int kind = (int) (draw(z, 0) % 16);
            if (!seen[kind]) {
                seen[kind] = true;
                PuddleStates q = Due.laid(ALONE + "w0,9;");
                Due.is("year(" + z + ", 1, 1)", q.year(z, 1, 1), 9 + kind % 4 - kind / 4);
                PuddleStates one = Due.laid(ALONE + "w0,1;");
                Due.is("year(" + z + ", 1, 1), rain ahead of sun", one.year(z, 1, 1), Math.max(0, 1 + kind % 4 - kind / 4));
                Due.is("year(" + z + ", 1, 0)", one.year(z, 1, 0), 1 + kind % 4 - kind / 4 > 0 ? 1 : 0);
            }
        }
        for (int kind = 0; kind < 16; kind++) {
            Due.is("there is such a day: " + kind, seen[kind] ? 1 : 0, 1);
        }
        // Of all hours that go by every second one dries the shade: those that went by ahead count, too.
        for (int ahead = 0; ahead <= 1; ahead++) {
            PuddleStates shade = Due.laid(ALONE + "k0,1;w0,20;");
            if (ahead > 0) {
                shade.shine(ahead);
            }
            int drops = 20;
            int hours = ahead;
            for (int n = 1; n <= 30; n++) {
                long draw = draw(9999, n - 1);
                drops += draw % 4;
                for (int i = 0; i < draw / 4 % 4; i++) {
                    hours++;
                    drops -= hours % 2 == 0 ? 1 : 0;
                }
                Due.is("in the shade: year(9999, " + n + ", 1)", shade.year(9999, n, 1), drops);
            }
        }
    }

    private static void yearRefused() {
        Due.sentence("23: BAD, and what is asked alone changes nothing");
        int[][] wrong = {{-1, 1, 0}, {10000, 1, 0}, {10001, 30, 1}, {MIN, 1, 0}, {MAX, 1, 0}, {0, 0, 0}, {0, 31, 0}, {0, -1, 0},
            {0, MIN, 0}, {0, MAX, 0}, {0, 1, -1}, {0, 1, 2}, {0, 1, MIN}, {0, 1, MAX}, {10000, 31, 2}};
        for (int[] w : wrong) {
            bad("year(" + w[0] + ", " + w[1] + ", " + w[2] + ")", p -> p.year(w[0], w[1], w[2]));
        }
        PuddleStates p = new PuddleStates();
        Stories.full(p);
        for (int what = 0; what <= 1; what++) {
            int asked = what;
            Twins.unchanged("year(9999, 30, " + what + ")", Stories::full, p.year(9999, 30, what),
                q -> q.year(9999, 30, asked));
        }
    }

    private static void keepFull() {
        Due.sentence("KEPT: 2 at most; 24: how many; FULL");
        PuddleStates p = Due.laid(ALONE + "w0,5;");
        Due.is("the first", p.keep(), 1);
        p.shine(1);
        Due.is("the second", p.keep(), 2);
        p.shine(1);
        Due.is("the third", p.keep(), FULL);
        Due.is("the fourth", p.keep(), FULL);
        Due.is("count(8)", p.count(8), 2);
        Due.is("the second stays", p.back() + p.cell(0, 2), 1 + 4);
        Due.is("room for one", p.keep(), 2);
        Due.is("no more", p.keep(), FULL);
        Due.is("as it was then", p.back() + p.cell(0, 2), 1 + 4);
        Due.is("the first stays", p.back() + p.cell(0, 2), 5);
        Due.is("none is left", p.back(), NO);
        Due.is("room for two", p.keep(), 1);
        Due.is("room for two", p.keep(), 2);
        Due.is("no more", p.keep(), FULL);
        Twins.unchanged("the third", Stories::full, FULL, PuddleStates::keep);
    }

    private static void keptIsAll() {
        Due.sentence("KEPT is all as it stands");
        Twins.Story[] later = {p -> p.rain(9), p -> p.shine(20), p -> p.shine(1), p -> p.boot(Stories.SHADE),
            p -> p.stone(Stories.OPEN, true), p -> p.stone(Stories.PUMP, false), p -> p.undo(), Stories::nothing};
        for (int i = 0; i < later.length; i++) {
            Twins.Story one = later[i];
            Twins.alike("kept, then gone on, then back, " + i, p -> {
                Stories.weather(p);
                p.keep();
                one.tell(p);
                Due.is("back()", p.back(), 0);
            }, p -> {
                Stories.weather(p);
                p.keep();
                Due.is("back()", p.back(), 0);
            });
        }
        PuddleStates p = Due.laid(ALONE + "k0,1;w0,9;");
        p.shine(1);
        p.stone(0, true);
        p.keep();
        p.shine(4);
        p.stone(0, true);
        p.back();
        Due.is("hours", p.count(5), 1);
        Due.is("height", p.cell(0, 0), 4);
        Due.is("drops", p.cell(0, 2), 9);
        p.shine(1);
        Due.is("the second hour", p.cell(0, 2), 8);
    }

    private static void keptNot() {
        Due.sentence("but RINGS and THE TEXT (these stay by back(), behind which nothing can be UNDONE)");
        PuddleStates p = Due.laid(ALONE);
        p.ring(0, 3);
        p.rain(1);
        p.keep();
        Due.is("keep() leaves what can be undone", p.count(7), 1);
        p.ring(0, 4);
        p.rain(1);
        p.write('x');
        Due.is("back()", p.back(), 0);
        Due.is("two rings", p.count(6), 2);
        Due.is("21 letters", p.count(9), 21);
        Due.is("its fault", p.fault(), 20);
        Due.is("nothing undone", p.count(7), 0);
        Due.is("undo()", p.undo(), NO);
        Due.is("by no rain are both so", p.rains(), 0);
        p.keep();
        p.forget();
        p.wipe();
        p.back();
        Due.is("no rings come back", p.count(6), 0);
        Due.is("no text comes back", p.count(9), 0);
        p.rain(2);
        Due.is("behind it the next can be undone", p.count(7), 1);
        Due.is("undo()", p.undo(), 0);
        Due.is("drops as they were kept", p.cell(0, 2), 1);
        PuddleStates undone = Due.laid(ALONE);
        undone.rain(1);
        undone.keep();
        Due.is("undone behind keep()", undone.undo(), 0);
        Due.is("kept all the same", undone.count(8), 1);
        undone.back();
        Due.is("as it was kept", undone.cell(0, 2), 1);
    }

    private static void backLast() {
        Due.sentence("25: as KEPT last (it is KEPT no more then): how many are left");
        PuddleStates p = Due.laid(ALONE + "w0,1;");
        p.keep();
        p.rain(1);
        p.keep();
        p.rain(1);
        Due.is("back()", p.back(), 1);
        Due.is("the last", p.cell(0, 2), 2);
        Due.is("count(8)", p.count(8), 1);
        Due.is("back()", p.back(), 0);
        Due.is("the first", p.cell(0, 2), 1);
        Due.is("count(8)", p.count(8), 0);
        Due.is("back()", p.back(), NO);
        Due.is("it stays", p.cell(0, 2), 1);
        p.keep();
        p.keep();
        p.rain(5);
        Due.is("two alike", p.back() + p.back() + p.cell(0, 2), 1 + 0 + 1);
    }

    private static void backRefused() {
        Due.sentence("25: NO, and nothing changes then");
        Twins.unchanged("back() of a new object", Stories::nothing, NO, PuddleStates::back);
        Twins.unchanged("back(), none kept", Stories::weather, NO, PuddleStates::back);
        Twins.unchanged("back(), all brought back", p -> {
            Stories.full(p);
            p.back();
            p.back();
            Stories.someMore(p);
        }, NO, PuddleStates::back);
        Twins.unchanged("back(), laid anew", p -> {
            Stories.full(p);
            p.lay();
            Stories.someMore(p);
        }, NO, PuddleStates::back);
    }

    private static void counts() {
        Due.sentence("26: how many, from none up to the most there can be");
        PuddleStates p = Due.laid("s2,2;");
        int[] none = {4, 2, 0, 0, 0, 0, 0, 0, 0, 5};
        for (int what = 0; what <= 9; what++) {
            Due.is("at first: count(" + what + ")", p.count(what), none[what]);
        }
        PuddleStates most = Due.laid("s6,6;");
        for (int i = 0; i < 7; i++) {
            most.rain(9);
        }
        most.shine(20);
        most.keep();
        most.keep();
        for (int i = 0; i < 6; i++) {
            most.ring(35, 40);
        }
        most.wipe();
        for (int i = 0; i < 200; i++) {
            most.write(' ');
        }
        int[] due = {36, 6, 36, 1, 36 * 40, 20, 6, 8, 2, 200};
        for (int what = 0; what <= 9; what++) {
            Due.is("at the most: count(" + what + ")", most.count(what), due[what]);
        }
        PuddleStates states = Due.laid("s6,6;w0,1;w2,1;w4,1;w7,1;w9,1;w11,1;w12,1;w14,1;w16,1;w19,1;w21,1;w23,1;w24,1;"
            + "w26,1;w28,1;w31,1;w33,1;w35,1;");
        Due.is("18 states", states.count(3), 18);
        Due.is("18 wet ones", states.count(2), 18);
        Due.is("18 drops", states.count(4), 18);
        Due.is("2 rows of 6", Due.laid("s2,6;").count(1), 2);
        Due.is("6 rows of 2", Due.laid("s6,2;").count(1), 6);
    }

    private static void countRefused() {
        Due.sentence("26: BAD");
        for (int what : new int[] {-1, 10, 11, 100, MIN, MAX}) {
            bad("count(" + what + ")", p -> p.count(what));
        }
    }
}
