import java.math.BigInteger;
import java.util.ArrayDeque;
import java.util.ArrayList;
import java.util.Deque;
import java.util.HashSet;
import java.util.List;
import java.util.Map;
import java.util.Set;
import java.util.TreeMap;
import java.util.TreeSet;
import java.util.regex.Matcher;
import java.util.regex.Pattern;

/**
 * The document told a second time, with the Java library and without a thought of speed, so that the class
 * can be held against it in long random runs. It shares no code with the class.
 */
final class Model {
    private static final int BAD = -1, NO = -2, FULL = -3, NONE = -4;

    /** A place on the square: its cell, row and column, so that neighbours are found by looking for them. */
    private static final class Spot {
        int row, column, height = 5, drops;
        char kind = 'O';

        Spot copy() {
            Spot c = new Spot();
            c.row = row;
            c.column = column;
            c.height = height;
            c.drops = drops;
            c.kind = kind;
            return c;
        }

        void take() {
            if ("OSP".indexOf(kind) >= 0) {
                drops = Math.min(60, drops + 1);
            }
        }
    }

    private static final class World {
        final List<Spot> spots = new ArrayList<>();
        int rows, hours;

        World copy() {
            World w = new World();
            for (Spot s : spots) {
                w.spots.add(s.copy());
            }
            w.rows = rows;
            w.hours = hours;
            return w;
        }

        List<Spot> beside(Spot s) {
            int[][] steps = {{-1, 0}, {1, 0}, {0, 1}, {0, -1}};
            List<Spot> found = new ArrayList<>();
            for (int[] step : steps) {
                for (Spot t : spots) {
                    if (t.row == s.row + step[0] && t.column == s.column + step[1] && t.kind != 'K') {
                        found.add(t);
                    }
                }
            }
            return found;
        }

        World flow() {
            for (int went = 1; went > 0;) {
                went = 0;
                for (Spot s : spots) {
                    Spot to = null;
                    for (Spot t : beside(s)) {
                        int falls = s.height + s.drops - t.height - t.drops;
                        boolean may = s.drops > 0 && (falls >= 2 || t.kind == 'D' && falls == 1);
                        if (may && (to == null || t.height + t.drops < to.height + to.drops)) {
                            to = t;
                        }
                    }
                    if (to != null) {
                        s.drops--;
                        to.take();
                        went++;
                    }
                }
            }
            return this;
        }

        World rained(int k) {
            World w = copy();
            for (int i = 0; i < k; i++) {
                for (Spot s : w.spots) {
                    s.take();
                }
            }
            return w.flow();
        }

        World shone(int n) {
            World w = copy();
            for (int i = 0; i < n; i++) {
                w.hours++;
                for (Spot s : w.spots) {
                    s.drops -= s.drops == 0 || s.kind == 'S' && w.hours % 2 == 1 ? 0 : 1;
                }
                for (Spot s : w.spots) {
                    if (s.kind == 'P') {
                        s.take();
                    }
                }
                w.flow();
            }
            return w;
        }

        /** Each state by its lowest cell. */
        Map<Integer, Set<Integer>> states() {
            Map<Integer, Set<Integer>> all = new TreeMap<>();
            for (int i = 0; i < spots.size(); i++) {
                if (spots.get(i).drops > 0 && all.values().stream().noneMatch(new Has(i)::in)) {
                    Set<Integer> state = new TreeSet<>();
                    Deque<Integer> open = new ArrayDeque<>(List.of(i));
                    while (!open.isEmpty()) {
                        int x = open.pop();
                        if (spots.get(x).drops > 0 && state.add(x)) {
                            for (Spot t : beside(spots.get(x))) {
                                open.push(spots.indexOf(t));
                            }
                        }
                    }
                    all.put(i, state);
                }
            }
            return all;
        }

        int stateOf(int x) {
            for (Map.Entry<Integer, Set<Integer>> state : states().entrySet()) {
                if (state.getValue().contains(x)) {
                    return state.getKey();
                }
            }
            return NONE;
        }

        boolean apart(int x, int y) {
            return stateOf(x) == NONE || stateOf(x) != stateOf(y);
        }

        int wet() {
            int wet = 0;
            for (Spot s : spots) {
                wet += s.drops > 0 ? 1 : 0;
            }
            return wet;
        }

        int drops() {
            int sum = 0;
            for (Spot s : spots) {
                sum += s.drops;
            }
            return sum;
        }
    }

    private static final class Has {
        private final int x;

        Has(int x) {
            this.x = x;
        }

        boolean in(Set<Integer> set) {
            return set.contains(x);
        }
    }

    private String text = "s4,5;h6,2;h7,3;h8,6;h11,1;h12,2;h3,4;h17,3;k4,1;k19,2;k9,3;k11,4;w7,3;";
    private World world;
    private final Deque<World> undone = new ArrayDeque<>();
    private final Deque<World> kept = new ArrayDeque<>();
    private final List<int[]> rings = new ArrayList<>();

    Model() {
        lay();
        text = "";
    }

    private boolean no(int x) {
        return x < 0 || x >= world.spots.size();
    }

    private static boolean out(int n, int least, int most) {
        return n < least || n > most;
    }

    int write(int letter) {
        if (out(letter, 32, 126)) {
            return BAD;
        }
        if (text.length() == 200) {
            return FULL;
        }
        text += (char) letter;
        return text.length();
    }

    int wipe() {
        int was = text.length();
        text = "";
        return was;
    }

    int fault() {
        Pattern item = Pattern.compile("([shkw])([0-9]{1,2}),([0-9]{1,2});");
        Matcher m = item.matcher(text);
        int cells = 20;
        boolean others = false;
        int at = 0;
        while (at < text.length()) {
            m.region(at, text.length());
            if (!m.lookingAt()) {
                return at;
            }
            int a = Integer.parseInt(m.group(2));
            int b = Integer.parseInt(m.group(3));
            if (m.group(1).equals("s")) {
                if (others || out(a, 2, 6) || out(b, 2, 6)) {
                    return at;
                }
                cells = a * b;
            } else {
                others = true;
                if (a >= cells || b > (m.group(1).equals("k") ? 4 : 20)) {
                    return at;
                }
            }
            at = m.end();
        }
        return NONE;
    }

    int lay() {
        if (text.isEmpty() || fault() != NONE) {
            return NO;
        }
        int rows = 4;
        int columns = 5;
        Map<String, Integer> told = new TreeMap<>();
        for (String item : text.split(";")) {
            String[] numbers = item.substring(1).split(",");
            int a = Integer.parseInt(numbers[0]);
            int b = Integer.parseInt(numbers[1]);
            if (item.charAt(0) == 's') {
                rows = a;
                columns = b;
            } else {
                told.put(item.substring(0, 1) + a, b);
            }
        }
        World w = new World();
        w.rows = rows;
        for (int i = 0; i < rows * columns; i++) {
            Spot s = new Spot();
            s.row = i / columns;
            s.column = i % columns;
            s.height = told.getOrDefault("h" + i, 5);
            s.kind = "OSDKP".charAt(told.getOrDefault("k" + i, 0));
            s.drops = "DK".indexOf(s.kind) >= 0 ? 0 : told.getOrDefault("w" + i, 0);
            w.spots.add(s);
        }
        world = w.flow();
        undone.clear();
        kept.clear();
        rings.clear();
        return world.spots.size();
    }

    int cell(int x, int what) {
        if (no(x) || out(what, 0, 5)) {
            return BAD;
        }
        Spot s = world.spots.get(x);
        Set<Integer> state = world.states().getOrDefault(world.stateOf(x), Set.of());
        int depth = 0;
        for (int y : state) {
            depth = Math.max(depth, world.spots.get(y).drops);
        }
        int[] all = {s.height, "OSDKP".indexOf(s.kind), s.drops, world.stateOf(x), state.size(), depth};
        return all[what];
    }

    private void turn(World next) {
        undone.push(world);
        if (undone.size() > 8) {
            undone.removeLast();
        }
        world = next;
    }

    int rain(int k) {
        if (out(k, 1, 9)) {
            return BAD;
        }
        turn(world.rained(k));
        return world.drops();
    }

    int shine(int n) {
        if (out(n, 1, 20)) {
            return BAD;
        }
        turn(world.shone(n));
        return world.hours;
    }

    int boot(int x) {
        if (no(x)) {
            return BAD;
        }
        if (world.spots.get(x).drops == 0) {
            return NO;
        }
        World w = world.copy();
        Spot s = w.spots.get(x);
        for (Spot t : w.beside(s)) {
            if (s.drops > 0) {
                s.drops--;
                t.take();
            }
        }
        turn(w.flow());
        return s.drops;
    }

    int stone(int x, boolean dug) {
        if (no(x)) {
            return BAD;
        }
        World w = world.copy();
        Spot s = w.spots.get(x);
        s.height += dug ? -1 : 1;
        if (out(s.height, 0, 20) || s.kind == 'K' || s.kind == 'D') {
            return NO;
        }
        turn(w.flow());
        return s.height;
    }

    int undo() {
        if (undone.isEmpty()) {
            return NO;
        }
        world = undone.pop();
        return undone.size();
    }

    int behind(int n, int x, int what) {
        if (out(n, 0, 40) || no(x) || out(what, 0, 1)) {
            return BAD;
        }
        World w = world.shone(n);
        return what == 0 ? w.spots.get(x).drops : w.stateOf(x);
    }

    int dry(int what) {
        if (out(what, 0, 1)) {
            return BAD;
        }
        for (int n = 0; n <= 60; n++) {
            if (world.shone(n).drops() == 0) {
                if (what == 0) {
                    return n;
                }
                for (int x = 0; n > 0 && x < world.spots.size(); x++) {
                    if (world.shone(n - 1).spots.get(x).drops > 0) {
                        return x;
                    }
                }
                return NONE;
            }
        }
        return NONE;
    }

    int join(int x, int y) {
        if (no(x) || no(y) || x == y) {
            return BAD;
        }
        int k = 0;
        while (k <= 30 && world.rained(k).apart(x, y)) {
            k++;
        }
        return k > 30 ? NONE : k;
    }

    int part(int x, int y) {
        if (no(x) || no(y) || x == y) {
            return BAD;
        }
        if (world.apart(x, y)) {
            return NO;
        }
        World w = world;
        for (int n = 1; n <= 60; n++) {
            w = w.shone(1);
            if (w.apart(x, y)) {
                return n;
            }
        }
        return NONE;
    }

    int way(int a, int b) {
        if (no(a) || no(b)) {
            return BAD;
        }
        Set<Integer> can = new HashSet<>();
        if (world.spots.get(a).drops > 0) {
            can.add(a);
        }
        World ahead = world;
        for (int n = 0; n <= 40; n++) {
            if (can.contains(b)) {
                return n;
            }
            World behind = ahead.shone(1);
            Set<Integer> next = new HashSet<>();
            for (int x : can) {
                List<Spot> choices = ahead.beside(ahead.spots.get(x));
                choices.add(ahead.spots.get(x));
                for (Spot s : choices) {
                    int y = ahead.spots.indexOf(s);
                    if (s.drops > 0 && behind.spots.get(y).drops > 0) {
                        next.add(y);
                    }
                }
            }
            can = next;
            ahead = behind;
        }
        return NONE;
    }

    int kerb(int x, int y, int k) {
        if (no(x) || no(y) || x == y || out(k, 0, 9)) {
            return BAD;
        }
        if (world.rained(k).apart(x, y)) {
            return 100;
        }
        for (int c = 0; c < world.spots.size(); c++) {
            Spot s = world.spots.get(c);
            if (c != x && c != y && s.kind != 'K' && s.drops == 0) {
                World w = world.copy();
                w.spots.get(c).kind = 'K';
                if (w.rained(k).apart(x, y)) {
                    return c;
                }
            }
        }
        return NONE;
    }

    int ring(int x, int v) {
        if (no(x) || out(v, 0, 60)) {
            return BAD;
        }
        if (rings.size() == 6) {
            return FULL;
        }
        rings.add(new int[] {x, v});
        return rings.size();
    }

    int forget() {
        int were = rings.size();
        rings.clear();
        return were;
    }

    int rains() {
        int bits = 0;
        for (int k = 30; k >= 0; k--) {
            World w = world.rained(k);
            int holds = 1;
            for (int[] ring : rings) {
                holds &= w.spots.get(ring[0]).drops == ring[1] ? 1 : 0;
            }
            bits = 2 * bits + holds;
        }
        return bits;
    }

    private static int share(BigInteger above, BigInteger below, int part) {
        BigInteger common = above.gcd(below);
        return (part == 0 ? above : below).divide(common).intValueExact();
    }

    int sky(int x, int part) {
        if (no(x) || out(part, 0, 1)) {
            return BAD;
        }
        Set<Integer> state = world.states().get(world.stateOf(x));
        if (state == null) {
            return NONE;
        }
        return share(BigInteger.valueOf(state.size()), BigInteger.valueOf(world.wet()), part);
    }

    /** By the tree of all that can happen: n times an hour, or nothing. */
    private static BigInteger chances(World w, int x, int n, int odds) {
        if (n == 0) {
            return w.spots.get(x).drops > 0 ? BigInteger.ONE : BigInteger.ZERO;
        }
        BigInteger by = chances(w.shone(1), x, n - 1, odds).multiply(BigInteger.valueOf(odds));
        return by.add(chances(w, x, n - 1, odds).multiply(BigInteger.valueOf(10 - odds)));
    }

    int sun(int x, int n, int odds, int part) {
        if (no(x) || out(n, 0, 6) || out(odds, 0, 10) || out(part, 0, 1)) {
            return BAD;
        }
        return share(chances(world, x, n, odds), BigInteger.TEN.pow(n), part);
    }

    int year(int z, int n, int what) {
        if (out(z, 0, 9999) || out(n, 1, 30) || out(what, 0, 1)) {
            return BAD;
        }
        World w = world;
        for (int k = 0; k < n; k++) {
            BigInteger x = BigInteger.valueOf(7919L * z + 6151L * k + 1);
            int draw = x.pow(2).mod(BigInteger.valueOf(65521)).intValueExact() >> 3;
            w = w.rained(draw & 3).shone(draw >> 2 & 3);
        }
        return what == 0 ? w.states().size() : w.drops();
    }

    int keep() {
        if (kept.size() == 2) {
            return FULL;
        }
        kept.push(world);
        return kept.size();
    }

    int back() {
        if (kept.isEmpty()) {
            return NO;
        }
        world = kept.pop();
        undone.clear();
        return kept.size();
    }

    int count(int what) {
        if (out(what, 0, 9)) {
            return BAD;
        }
        int[] all = {world.spots.size(), world.rows, world.wet(), world.states().size(), world.drops(),
            world.hours, rings.size(), undone.size(), kept.size(), text.length()};
        return all[what];
    }
}
