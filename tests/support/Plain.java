import java.util.ArrayList;
import java.util.HashMap;
import java.util.List;
import java.util.Map;
import java.util.NoSuchElementException;

/**
 * The document once more, as plainly as it can be said and by other means than the class: rows are
 * searched forwards from their first STATE, axes look for the nearest place, homes walk.
 */
final class Plain {
    static final int NONE = -1;

    /** A row of TICKS by its changes; null stands for none. */
    private static final class Row {
        final List<Integer> changes = new ArrayList<>();
        int steps = 0;
    }

    /** A STATE that a search has come to, with the steps made till there. */
    private static final class Found {
        final int v;
        final int a;
        final int made;
        Found from;
        int rank;

        Found(int v, int a, int made, Found from) {
            this.v = v;
            this.a = a;
            this.made = made;
            this.from = from;
        }
    }

    private int topSpeed = 6;
    private int topChange = 2;
    private int jerk = 1;
    private final boolean[] bads = new boolean[13];
    private final int[] pulls = new int[13];
    private int loaded = 0;
    private int mass = 0;
    private boolean onlySafe = false;
    private Row[] ramps = null;

    private boolean going = false;
    private List<Integer> changesLeft = new ArrayList<>();
    private final int[] ways = new int[3];
    private final int[] places = new int[3];
    private final int[] truePlaces = new int[3];
    private final Integer[] switches = new Integer[3];
    private final int[] states = {0, 0, 0, 0, 0, 0, 0, NONE, 0};

    private int parts = 4;
    private int level = 10;
    private int[] numbers = {10, 7, 5, 2, 0};

    Plain() {
        for (int v = 0; v <= 12; v++) {
            pulls[v] = 100;
        }
    }

    // ---- 1. LIMITS, RAMPS, SLOWINGS

    boolean limits(int speed, int change, int newJerk) {
        if (going || speed < 1 || speed > 12 || change < 1 || change > 4 || newJerk < 1 || newJerk > 4) {
            return false;
        }
        topSpeed = speed;
        topChange = change;
        jerk = newJerk;
        ramps = null;
        return true;
    }

    boolean bad(int speed, boolean is) {
        if (going || speed < 1 || speed > 12 || bads[speed] == is) {
            return false;
        }
        bads[speed] = is;
        ramps = null;
        return true;
    }

    boolean pull(int speed, int most) {
        if (going || speed < 0 || speed > 12 || most < 0 || most > 1000) {
            return false;
        }
        pulls[speed] = most;
        ramps = null;
        return true;
    }

    boolean load(int newLoad, int newMass) {
        if (going || newLoad < 0 || newLoad > 1000 || newMass < 0 || newMass > 100) {
            return false;
        }
        loaded = newLoad;
        mass = newMass;
        ramps = null;
        return true;
    }

    boolean only(boolean is) {
        if (going || onlySafe == is) {
            return false;
        }
        onlySafe = is;
        ramps = null;
        return true;
    }

    int ramp(int n) {
        Row row = rampOf(n);
        return row == null ? NONE : row.changes.size();
    }

    int speed(int n, int t) {
        Row row = rampOf(n);
        if (row == null || t < 0 || t >= row.changes.size()) {
            return NONE;
        }
        int v = 0;
        for (int i = 0; i <= t; i++) {
            v += row.changes.get(i);
        }
        return v;
    }

    int slowing(int v, int a, int what) {
        if (v < 0 || v > topSpeed || a < -topChange || a > topChange || what < 0 || what > 2) {
            return NONE;
        }
        Row row = slowingOf(v, a);
        if (row == null) {
            return NONE;
        }
        if (what == 0) {
            return row.changes.size();
        }
        if (what == 1) {
            return row.steps;
        }
        return row.changes.isEmpty() ? NONE : row.changes.get(0);
    }

    private boolean isTick(int v, int a, int w, int b) {
        return b - a <= jerk && a - b <= jerk && w == v + b && w >= 0 && w <= topSpeed
                && b >= -topChange && b <= topChange && !(b == 0 && bads[w]);
    }

    private boolean isSafe(int w, int b) {
        return loaded + mass * (b < 0 ? -b : b) <= pulls[w];
    }

    private boolean isRest(int v, int a) {
        return v == 0 && a <= jerk && a >= -jerk;
    }

    private Row rampOf(int n) {
        if (n < 0 || n > 200) {
            return null;
        }
        if (ramps == null) {
            ramps = allRamps();
        }
        return ramps[n];
    }

    private Row[] allRamps() {
        Row[] best = new Row[201];
        Map<Integer, Found> met = new HashMap<>();
        List<Found> layer = new ArrayList<>();
        layer.add(new Found(0, 0, 0, null));
        met.put(key(layer.get(0)), layer.get(0));
        while (!layer.isEmpty()) {
            rankByRow(layer);
            Found[] rests = new Found[201];
            for (Found one : layer) {
                Found other = rests[one.made];
                if (isRest(one.v, one.a) && (other == null || one.rank > other.rank)) {
                    rests[one.made] = one;
                }
            }
            for (int n = 0; n <= 200; n++) {
                if (best[n] == null && rests[n] != null) {
                    best[n] = rowTo(rests[n]);
                }
            }
            layer = nextLayer(layer, met, onlySafe, true);
        }
        return best;
    }

    private Row slowingOf(int v, int a) {
        Row safeRow = onlySafe ? slowingOf(v, a, true) : null;
        return safeRow != null ? safeRow : slowingOf(v, a, false);
    }

    private Row slowingOf(int v, int a, boolean safeAlone) {
        Map<Integer, Found> met = new HashMap<>();
        List<Found> layer = new ArrayList<>();
        layer.add(new Found(v, a, 0, null));
        met.put(key(layer.get(0)), layer.get(0));
        while (!layer.isEmpty()) {
            rankByRow(layer);
            Found best = null;
            for (Found one : layer) {
                boolean isBetter = best == null || one.made < best.made
                        || one.made == best.made && one.rank > best.rank;
                if (isRest(one.v, one.a) && isBetter) {
                    best = one;
                }
            }
            if (best != null) {
                return rowTo(best);
            }
            layer = nextLayer(layer, met, safeAlone, false);
        }
        return null;
    }

    /** In a RAMP the steps made are a part of what is met; in a SLOWING they are what is as few as can be. */
    private List<Found> nextLayer(List<Found> layer, Map<Integer, Found> met, boolean safeAlone, boolean isRamp) {
        Map<Integer, Found> next = new HashMap<>();
        for (Found one : layer) {
            for (int b = -4; b <= 4; b++) {
                int w = one.v + b;
                if (!isTick(one.v, one.a, w, b) || safeAlone && !isSafe(w, b) || isRamp && one.made + w > 200) {
                    continue;
                }
                Found found = new Found(w, b, one.made + w, one);
                int key = isRamp ? key(found) : key(new Found(w, b, 0, null));
                if (met.containsKey(key)) {
                    continue;
                }
                Found other = next.get(key);
                if (other == null || found.made < other.made
                        || found.made == other.made && one.rank > other.from.rank) {
                    next.put(key, found);
                }
            }
        }
        met.putAll(next);
        return new ArrayList<>(next.values());
    }

    private static int key(Found found) {
        return (found.made * 13 + found.v) * 9 + found.a + 4;
    }

    /** The greater the changes where two rows first differ, the greater the rank. */
    private static void rankByRow(List<Found> layer) {
        layer.sort((x, y) -> {
            int byFrom = x.from == null ? 0 : Integer.compare(x.from.rank, y.from.rank);
            return byFrom != 0 ? byFrom : Integer.compare(x.a, y.a);
        });
        for (int i = 0; i < layer.size(); i++) {
            layer.get(i).rank = i;
        }
    }

    private static Row rowTo(Found last) {
        Row row = new Row();
        row.steps = last.made;
        for (Found one = last; one.from != null; one = one.from) {
            row.changes.add(0, one.a);
        }
        return row;
    }

    // ---- 2. MOVES, AXES, SWITCHES

    int move(int d0, int d1, int d2) {
        int[] d = {d0, d1, d2};
        int n = 0;
        for (int one : d) {
            if (one < -200 || one > 200) {
                return NONE;
            }
            n = Math.max(n, Math.abs(one));
        }
        Row row = rampOf(n);
        if (going || row == null) {
            return NONE;
        }
        for (int i = 0; i < 3; i++) {
            ways[i] = d[i];
        }
        for (int i = 0; i < 9; i++) {
            states[i] = i == 7 ? NONE : 0;
        }
        states[4] = n;
        changesLeft = new ArrayList<>(row.changes);
        going = !changesLeft.isEmpty();
        return row.changes.size();
    }

    int tick(int k) {
        if (k < 0 || k > 1000 || !going) {
            return NONE;
        }
        int gone = 0;
        while (gone < k && going) {
            takeTick(changesLeft.remove(0));
            going = !changesLeft.isEmpty();
            gone++;
        }
        return gone;
    }

    private void takeTick(int b) {
        int w = states[1] + b;
        boolean isMissed = !isSafe(w, b);
        for (int axis = 0; axis < 3; axis++) {
            int made = gone(axis, states[3] + w) - gone(axis, states[3]);
            places[axis] += made;
            truePlaces[axis] += isMissed ? 0 : made;
        }
        if (isMissed) {
            states[6] += w;
            if (states[7] == NONE && w > 0) {
                states[7] = states[5];
            }
        }
        states[1] = w;
        states[2] = b;
        states[3] += w;
        states[5]++;
    }

    /** The whole number g for which g is nearest to m times d by n: g n to m d. */
    private int gone(int axis, int m) {
        int n = states[4];
        int best = 0;
        for (int g = -2000; g <= 2000; g++) {
            int far = Math.abs(g * n - m * ways[axis]);
            int least = Math.abs(best * n - m * ways[axis]);
            if (far < least || far == least && Math.abs(g) > Math.abs(best)) {
                best = g;
            }
        }
        return best;
    }

    int stop() {
        if (!going || states[8] == 1) {
            return NONE;
        }
        Row row = slowingOf(states[1], states[2]);
        if (row == null) {
            return NONE;
        }
        states[8] = 1;
        changesLeft = new ArrayList<>(row.changes);
        going = !changesLeft.isEmpty();
        return row.changes.size();
    }

    int place(int axis, boolean isTrue) {
        if (axis < 0 || axis > 2) {
            throw new NoSuchElementException();
        }
        return isTrue ? truePlaces[axis] : places[axis];
    }

    int state(int what) {
        if (what < 0 || what > 8) {
            return NONE;
        }
        return what == 0 ? (going ? 1 : 0) : states[what];
    }

    boolean at(int axis, int s) {
        if (axis < 0 || axis > 2 || s < -2000 || s > 2000) {
            return false;
        }
        switches[axis] = s;
        return true;
    }

    int on(int axis) {
        if (axis < 0 || axis > 2 || switches[axis] == null) {
            return NONE;
        }
        return truePlaces[axis] >= switches[axis] ? 1 : 0;
    }

    int home(int axis) {
        if (going || on(axis) == NONE) {
            return NONE;
        }
        int made = 0;
        if (on(axis) == 0) {
            while (on(axis) == 0) {
                truePlaces[axis]++;
                made++;
            }
        } else {
            while (on(axis) == 1) {
                truePlaces[axis]--;
                made++;
            }
            truePlaces[axis]++;
            made++;
        }
        places[axis] = 0;
        return made;
    }

    // ---- 3. CURRENTS

    boolean table(int n, int newLevel) {
        if (n != 1 && n != 2 && n != 4 && n != 8 || newLevel < 1 || newLevel > 100) {
            return false;
        }
        parts = n;
        level = newLevel;
        numbers = new int[n + 1];
        for (int p = 0; p <= n; p++) {
            numbers[p] = level * (n - p) / n;
        }
        return true;
    }

    boolean set(int p, int a) {
        if (p < 0 || p > parts || a < 0 || a > level) {
            return false;
        }
        numbers[p] = a;
        return true;
    }

    /** The second current is the first one a quarter of a round further on, turned. */
    int current(int p, int which) {
        if (p < 0 || p > 1000 || which < 0 || which > 1) {
            throw new NoSuchElementException();
        }
        int r = p % parts;
        int[][] round = {
            {numbers[r], numbers[parts - r]},
            {-numbers[parts - r], numbers[r]},
            {-numbers[r], -numbers[parts - r]},
            {numbers[parts - r], -numbers[r]}};
        return round[p / parts % 4][which];
    }

    int miss(int p) {
        return p < 0 || p > parts ? NONE : missOf(numbers[p], numbers[parts - p]);
    }

    private int missOf(int x, int y) {
        return Math.abs(x * x + y * y - level * level);
    }

    int evenness() {
        int greatest = 0;
        for (int p = 0; p <= parts; p++) {
            greatest = Math.max(greatest, miss(p));
        }
        return greatest;
    }

    int smooth() {
        for (int p = 0; 2 * p <= parts; p++) {
            smoothPair(p, parts - p);
        }
        return evenness();
    }

    private void smoothPair(int p, int q) {
        int[] best = null;
        for (int x = 0; x <= level; x++) {
            for (int y = 0; y <= x; y++) {
                if (p == q && x != y) {
                    continue;
                }
                int[] one = {missOf(x, y), Math.abs(x * p - y * q), -x, y};
                if (best == null || java.util.Arrays.compare(one, best) < 0) {
                    best = one;
                }
            }
        }
        numbers[p] = -best[2];
        numbers[q] = best[3];
    }
}
