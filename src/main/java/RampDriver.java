import java.util.Arrays;
import java.util.NoSuchElementException;

/**
 * A driver of three step motors: moves from rest to rest in the fewest ticks, slowings, places,
 * switches, and the currents between the steps. The document ../shared/DOC.md says what each call
 * answers; the words in capitals here are its terms.
 */
public final class RampDriver {
    public static final int NONE = -1;

    private static final int TOP_SPEED = 12;
    private static final int TOP_CHANGE = 4;
    private static final int TOP_JERK = 4;
    private static final int TOP_PULL = 1000;
    private static final int TOP_LOAD = 1000;
    private static final int TOP_MASS = 100;
    private static final int TOP_STEPS = 200;
    private static final int TOP_TICKS = 1000;
    private static final int TOP_SWITCH = 2000;
    private static final int TOP_ROUND = 1000;
    private static final int TOP_PARTS = 8;
    private static final int TOP_LEVEL = 100;

    /** Stands where there is no next TICK: NONE is a change like others, this is none. */
    private static final int NO_CHANGE = TOP_CHANGE + 1;

    /** How many changes a speed has, and how many STATES there are when each speed has them all. */
    private static final int CHANGES = 2 * TOP_CHANGE + 1;
    private static final int STATES = (TOP_SPEED + 1) * CHANGES;
    /** How many numbers of steps that are left a STATE has in a RAMP. */
    private static final int LEFTS = TOP_STEPS + 1;

    private final Rules rules = new Rules();
    private final Ramps ramps = new Ramps();
    private final Slowings safeSlowings = new Slowings(true);
    private final Slowings anySlowings = new Slowings(false);
    private final Move latest = new Move();
    private final Axis axis0 = new Axis();
    private final Axis axis1 = new Axis();
    private final Axis axis2 = new Axis();
    private final Currents currents = new Currents();

    public RampDriver() {
    }

    public boolean limits(int speed, int change, int jerk) {
        if (latest.goesOn() || !isWithin(speed, 1, TOP_SPEED) || !isWithin(change, 1, TOP_CHANGE)
                || !isWithin(jerk, 1, TOP_JERK)) {
            return false;
        }
        rules.tellLimits(speed, change, jerk);
        return true;
    }

    public boolean bad(int speed, boolean is) {
        if (latest.goesOn() || !isWithin(speed, 1, TOP_SPEED) || rules.isBad(speed) == is) {
            return false;
        }
        rules.tellBad(speed, is);
        return true;
    }

    public boolean pull(int speed, int most) {
        if (latest.goesOn() || !isWithin(speed, 0, TOP_SPEED) || !isWithin(most, 0, TOP_PULL)) {
            return false;
        }
        rules.tellPull(speed, most);
        return true;
    }

    public boolean load(int load, int mass) {
        if (latest.goesOn() || !isWithin(load, 0, TOP_LOAD) || !isWithin(mass, 0, TOP_MASS)) {
            return false;
        }
        rules.tellLoad(load, mass);
        return true;
    }

    public boolean only(boolean is) {
        if (latest.goesOn() || rules.onlySafe == is) {
            return false;
        }
        rules.tellOnlySafe(is);
        return true;
    }

    public int ramp(int n) {
        return ramps.ticksOf(rules, n);
    }

    public int speed(int n, int t) {
        if (t < 0 || t >= ramps.ticksOf(rules, n)) {
            return NONE;
        }
        return ramps.speedIn(rules, n, t);
    }

    public int slowing(int v, int a, int what) {
        if (!rules.isState(v, a) || !isWithin(what, 0, 2)) {
            return NONE;
        }
        Slowings rows = slowingsFrom(v, a);
        int ticks = rows.ticksFrom(v, a);
        if (ticks == NONE || what == 0) {
            return ticks;
        }
        if (what == 1) {
            return rows.stepsFrom(v, a);
        }
        int change = rows.nextChange(rules, v, a);
        return change == NO_CHANGE ? NONE : change;
    }

    public int move(int d0, int d1, int d2) {
        if (latest.goesOn() || !isWay(d0) || !isWay(d1) || !isWay(d2)) {
            return NONE;
        }
        int n = Math.max(Math.abs(d0), Math.max(Math.abs(d1), Math.abs(d2)));
        int ticks = ramps.ticksOf(rules, n);
        if (ticks == NONE) {
            return NONE;
        }
        latest.start(n, ticks);
        axis0.start(d0);
        axis1.start(d1);
        axis2.start(d2);
        return ticks;
    }

    public int tick(int k) {
        if (!latest.goesOn() || !isWithin(k, 0, TOP_TICKS)) {
            return NONE;
        }
        int gone = 0;
        while (gone < k && latest.goesOn()) {
            takeTick();
            gone++;
        }
        return gone;
    }

    public int stop() {
        if (!latest.goesOn() || latest.stopped) {
            return NONE;
        }
        Slowings rows = slowingsFrom(latest.speed, latest.change);
        int ticks = rows.ticksFrom(latest.speed, latest.change);
        if (ticks == NONE) {
            return NONE;
        }
        latest.goBySlowing(ticks, rows == safeSlowings);
        return ticks;
    }

    public int place(int axis, boolean isTrue) throws NoSuchElementException {
        Axis one = axisOf(axis);
        if (one == null) {
            throw new NoSuchElementException();
        }
        return isTrue ? one.truePlace : one.place;
    }

    public int state(int what) {
        switch (what) {
            case 0:
                return latest.goesOn() ? 1 : 0;
            case 1:
                return latest.speed;
            case 2:
                return latest.change;
            case 3:
                return latest.stepsMade;
            case 4:
                return latest.steps;
            case 5:
                return latest.ticksMade;
            case 6:
                return latest.stepsMissed;
            case 7:
                return latest.firstMissed;
            case 8:
                return latest.stopped ? 1 : 0;
            default:
                return NONE;
        }
    }

    public boolean at(int axis, int s) {
        Axis one = axisOf(axis);
        if (one == null || !isWithin(s, -TOP_SWITCH, TOP_SWITCH)) {
            return false;
        }
        one.putSwitch(s);
        return true;
    }

    public int on(int axis) {
        Axis one = axisOf(axis);
        if (one == null || !one.hasSwitch) {
            return NONE;
        }
        return one.isOn() ? 1 : 0;
    }

    public int home(int axis) {
        Axis one = axisOf(axis);
        if (one == null || !one.hasSwitch || latest.goesOn()) {
            return NONE;
        }
        return one.findSwitch();
    }

    public boolean table(int n, int level) {
        boolean isParts = n == 1 || n == 2 || n == 4 || n == 8;
        if (!isParts || !isWithin(level, 1, TOP_LEVEL)) {
            return false;
        }
        currents.lay(n, level);
        return true;
    }

    public boolean set(int p, int a) {
        if (!isWithin(p, 0, currents.parts) || !isWithin(a, 0, currents.level)) {
            return false;
        }
        currents.put(p, a);
        return true;
    }

    public int current(int p, int which) throws NoSuchElementException {
        if (!isWithin(p, 0, TOP_ROUND) || !isWithin(which, 0, 1)) {
            throw new NoSuchElementException();
        }
        return which == 0 ? currents.firstAt(p) : currents.secondAt(p);
    }

    public int miss(int p) {
        return isWithin(p, 0, currents.parts) ? currents.missOf(p) : NONE;
    }

    public int evenness() {
        return currents.greatestMiss();
    }

    public int smooth() {
        currents.even();
        return currents.greatestMiss();
    }

    private static boolean isWithin(int number, int least, int most) {
        return number >= least && number <= most;
    }

    private static boolean isWay(int d) {
        return isWithin(d, -TOP_STEPS, TOP_STEPS);
    }

    private static boolean isIndexOf(int[] row, int index) {
        return index >= 0 && index < row.length;
    }

    private static int stateNumber(int v, int a) {
        return v * CHANGES + a + TOP_CHANGE;
    }

    private Axis axisOf(int axis) {
        switch (axis) {
            case 0:
                return axis0;
            case 1:
                return axis1;
            case 2:
                return axis2;
            default:
                return null;
        }
    }

    /** The rows that SLOWING from a STATE is taken from: those of any TICKS, where no SAFE row is. */
    private Slowings slowingsFrom(int v, int a) {
        if (rules.onlySafe) {
            safeSlowings.renew(rules);
            if (safeSlowings.ticksFrom(v, a) != NONE) {
                return safeSlowings;
            }
        }
        anySlowings.renew(rules);
        return anySlowings;
    }

    private void takeTick() {
        int b = nextChange();
        if (b == NO_CHANGE) {
            latest.end();
            return;
        }
        int w = latest.speed + b;
        boolean isSafe = rules.isSafe(w, b);
        latest.takeTick(w, b, isSafe);
        axis0.follow(latest.steps, latest.stepsMade, isSafe);
        axis1.follow(latest.steps, latest.stepsMade, isSafe);
        axis2.follow(latest.steps, latest.stepsMade, isSafe);
    }

    private int nextChange() {
        int v = latest.speed;
        int a = latest.change;
        if (!latest.stopped) {
            return ramps.nextChange(rules, v, a, latest.steps - latest.stepsMade);
        }
        Slowings rows = latest.slowsSafely ? safeSlowings : anySlowings;
        return rows.nextChange(rules, v, a);
    }

    /** What TICKS there are: LIMITS, BAD speeds, PULLS, LOAD, MASS, and whether only SAFE ones are wanted. */
    private static final class Rules {
        private int topSpeed = 6;
        private int topChange = 2;
        private int jerk = 1;
        private int load = 0;
        private int mass = 0;
        private final boolean[] bads = new boolean[TOP_SPEED + 1];
        private final int[] pulls = new int[TOP_SPEED + 1];
        boolean onlySafe = false;
        /** Another one for each telling, so that rows that were found ahead of it are known as old. */
        int version = 1;

        Rules() {
            Arrays.fill(pulls, 100);
        }

        void tellLimits(int newSpeed, int newChange, int newJerk) {
            topSpeed = newSpeed;
            topChange = newChange;
            jerk = newJerk;
            version++;
        }

        void tellBad(int v, boolean is) {
            if (isWithin(v, 0, TOP_SPEED)) {
                bads[v] = is;
                version++;
            }
        }

        void tellPull(int v, int most) {
            if (isWithin(v, 0, TOP_SPEED)) {
                pulls[v] = most;
                version++;
            }
        }

        void tellLoad(int newLoad, int newMass) {
            load = newLoad;
            mass = newMass;
            version++;
        }

        void tellOnlySafe(boolean is) {
            onlySafe = is;
            version++;
        }

        boolean isBad(int v) {
            return v >= 0 && v < bads.length && bads[v];
        }

        boolean isSpeed(int v) {
            return v >= 0 && v <= topSpeed;
        }

        boolean isState(int v, int a) {
            return v >= 0 && v <= topSpeed && a >= -topChange && a <= topChange;
        }

        boolean isRest(int v, int a) {
            return v == 0 && isState(v, a) && a >= -jerk && a <= jerk;
        }

        boolean isSafe(int w, int b) {
            return w >= 0 && w < pulls.length && load + mass * Math.abs(b) <= pulls[w];
        }

        /** Whether a TICK may end at (w, b), as far as it does not hang on where it comes from. */
        boolean mayEnd(int w, int b, boolean safeAlone) {
            return isState(w, b) && !(b == 0 && isBad(w)) && (!safeAlone || isSafe(w, b));
        }

        /** The least change that JERK lets stand beside a; ahead of it and behind it alike. */
        int leastBeside(int a) {
            return Math.max(-topChange, a - jerk);
        }

        int mostBeside(int a) {
            return Math.min(topChange, a + jerk);
        }
    }

    /**
     * How many TICKS it takes at least from a STATE with some steps left to REST with none left.
     * They are found from REST backwards, the fewest first, so that one search serves each n.
     */
    private static final class Ramps {
        private final int[] ticks = new int[STATES * LEFTS];
        private final int[] found = new int[STATES * LEFTS];
        private int looked = 0;
        private int count = 0;
        private int version = 0;

        /** The search waits where n is found, and goes on from there for an n that it has not met. */
        int ticksOf(Rules rules, int n) {
            if (!isWithin(n, 0, TOP_STEPS)) {
                return NONE;
            }
            if (version != rules.version) {
                begin(rules);
            }
            while (looked < count && isIndexOf(found, looked) && ticksAt(0, 0, n) == NONE) {
                lookBehind(rules, found[looked]);
                looked++;
            }
            return ticksAt(0, 0, n);
        }

        int speedIn(Rules rules, int n, int t) {
            int v = 0;
            int a = 0;
            int left = n;
            for (int i = 0; i <= t; i++) {
                a = nextChange(rules, v, a, left);
                if (a == NO_CHANGE) {
                    return NONE;
                }
                v += a;
                left -= v;
            }
            return v;
        }

        /** The greatest change by which the fewest TICKS go on. */
        int nextChange(Rules rules, int v, int a, int left) {
            int fewest = ticksAt(v, a, left);
            if (fewest < 1) {
                return NO_CHANGE;
            }
            int least = rules.leastBeside(a);
            for (int b = rules.mostBeside(a); b >= least; b--) {
                int w = v + b;
                if (rules.mayEnd(w, b, rules.onlySafe) && ticksAt(w, b, left - w) == fewest - 1) {
                    return b;
                }
            }
            return NO_CHANGE;
        }

        private void begin(Rules rules) {
            version = rules.version;
            Arrays.fill(ticks, NONE);
            looked = 0;
            count = 0;
            for (int a = -TOP_CHANGE; a <= TOP_CHANGE; a++) {
                if (rules.isRest(0, a)) {
                    find(nodeOf(0, a, 0), 0);
                }
            }
        }

        private void lookBehind(Rules rules, int node) {
            int state = node / LEFTS;
            int w = state / CHANGES;
            int b = state % CHANGES - TOP_CHANGE;
            int v = w - b;
            int leftBehind = node % LEFTS;
            int left = leftBehind + w;
            if (left > TOP_STEPS || !rules.isSpeed(v) || !rules.mayEnd(w, b, rules.onlySafe)) {
                return;
            }
            int ticksBehind = ticksAt(w, b, leftBehind) + 1;
            int most = rules.mostBeside(b);
            for (int a = rules.leastBeside(b); a <= most; a++) {
                find(nodeOf(v, a, left), ticksBehind);
            }
        }

        private void find(int node, int atTicks) {
            if (isIndexOf(ticks, node) && ticks[node] == NONE && isIndexOf(found, count)) {
                ticks[node] = atTicks;
                found[count] = node;
                count++;
            }
        }

        private int ticksAt(int v, int a, int left) {
            int node = nodeOf(v, a, left);
            return isWithin(left, 0, TOP_STEPS) && isIndexOf(ticks, node) ? ticks[node] : NONE;
        }

        private static int nodeOf(int v, int a, int left) {
            return stateNumber(v, a) * LEFTS + left;
        }
    }

    /** How many TICKS it takes at least from a STATE to REST, and how many steps they then make at least. */
    private static final class Slowings {
        private final boolean safeAlone;
        private final int[] ticks = new int[STATES];
        private final int[] steps = new int[STATES];
        private final int[] found = new int[STATES];
        private int count = 0;
        private int version = 0;

        Slowings(boolean safeAlone) {
            this.safeAlone = safeAlone;
        }

        /** How many TICKS, of a STATE of the rules that they were found by. */
        int ticksFrom(int v, int a) {
            int state = stateNumber(v, a);
            return isIndexOf(ticks, state) ? ticks[state] : NONE;
        }

        int stepsFrom(int v, int a) {
            int state = stateNumber(v, a);
            return isIndexOf(steps, state) ? steps[state] : NONE;
        }

        /** The greatest change by which the fewest TICKS go on with the fewest steps. */
        int nextChange(Rules rules, int v, int a) {
            int fewest = ticksFrom(v, a);
            if (fewest < 1) {
                return NO_CHANGE;
            }
            int fewestSteps = stepsFrom(v, a);
            int least = rules.leastBeside(a);
            for (int b = rules.mostBeside(a); b >= least; b--) {
                int w = v + b;
                if (rules.mayEnd(w, b, safeAlone) && ticksFrom(w, b) == fewest - 1
                        && stepsFrom(w, b) + w == fewestSteps) {
                    return b;
                }
            }
            return NO_CHANGE;
        }

        /** Finds the rows anew, if what is told has changed since they were found. */
        void renew(Rules rules) {
            if (version == rules.version) {
                return;
            }
            version = rules.version;
            Arrays.fill(ticks, NONE);
            count = 0;
            for (int a = -TOP_CHANGE; a <= TOP_CHANGE; a++) {
                if (rules.isRest(0, a)) {
                    find(stateNumber(0, a), 0, 0);
                }
            }
            for (int looked = 0; looked < count && isIndexOf(found, looked); looked++) {
                lookBehind(rules, found[looked]);
            }
        }

        private void lookBehind(Rules rules, int state) {
            int w = state / CHANGES;
            int b = state % CHANGES - TOP_CHANGE;
            int v = w - b;
            if (!rules.isSpeed(v) || !rules.mayEnd(w, b, safeAlone)) {
                return;
            }
            int ticksBehind = ticksFrom(w, b) + 1;
            int stepsBehind = stepsFrom(w, b) + w;
            int most = rules.mostBeside(b);
            for (int a = rules.leastBeside(b); a <= most; a++) {
                find(stateNumber(v, a), ticksBehind, stepsBehind);
            }
        }

        private void find(int state, int atTicks, int atSteps) {
            if (!isIndexOf(ticks, state) || !isIndexOf(steps, state)) {
                return;
            }
            if (ticks[state] == NONE && isIndexOf(found, count)) {
                ticks[state] = atTicks;
                steps[state] = atSteps;
                found[count] = state;
                count++;
            } else if (ticks[state] == atTicks && atSteps < steps[state]) {
                steps[state] = atSteps;
            }
        }
    }

    /** The latest MOVE: how far it is, and what it has met. */
    private static final class Move {
        int steps = 0;
        int stepsMade = 0;
        int speed = 0;
        int change = 0;
        int ticksMade = 0;
        int stepsMissed = 0;
        int firstMissed = NONE;
        boolean stopped = false;
        /** Whether it slows by the rows of SAFE TICKS: a row is gone to its end where it was begun. */
        boolean slowsSafely = false;
        private int ticksLeft = 0;

        boolean goesOn() {
            return ticksLeft > 0;
        }

        void start(int n, int ticks) {
            steps = n;
            stepsMade = 0;
            speed = 0;
            change = 0;
            ticksMade = 0;
            stepsMissed = 0;
            firstMissed = NONE;
            stopped = false;
            slowsSafely = false;
            ticksLeft = ticks;
        }

        void goBySlowing(int ticks, boolean safely) {
            stopped = true;
            slowsSafely = safely;
            ticksLeft = ticks;
        }

        void takeTick(int w, int b, boolean isSafe) {
            // A TICK that stands still has no step to miss, so it can't be the first one.
            if (!isSafe && w > 0) {
                stepsMissed += w;
                firstMissed = firstMissed == NONE ? ticksMade : firstMissed;
            }
            speed = w;
            change = b;
            stepsMade += w;
            ticksMade++;
            ticksLeft--;
        }

        void end() {
            ticksLeft = 0;
        }
    }

    /** An AXIS: where it is, where it truly is, its way in the latest MOVE, and its SWITCH. */
    private static final class Axis {
        int place = 0;
        int truePlace = 0;
        boolean hasSwitch = false;
        private int switchPlace = 0;
        private int way = 0;
        private int gone = 0;

        void start(int d) {
            way = d;
            gone = 0;
        }

        void follow(int n, int m, boolean isSafe) {
            int now = goneBehind(n, m);
            place += now - gone;
            if (isSafe) {
                truePlace += now - gone;
            }
            gone = now;
        }

        /** m times the way by n, to the nearest, a half away from 0. */
        private int goneBehind(int n, int m) {
            if (n < 1) {
                return 0;
            }
            int size = (2 * m * Math.abs(way) + n) / (2 * n);
            return way < 0 ? -size : size;
        }

        void putSwitch(int s) {
            switchPlace = s;
            hasSwitch = true;
        }

        boolean isOn() {
            return truePlace >= switchPlace;
        }

        /** Counted, not walked: from below it ends on the first place that is on, from above one behind it and back. */
        int findSwitch() {
            int made = isOn() ? truePlace - (switchPlace - 1) + 1 : switchPlace - truePlace;
            truePlace = switchPlace;
            place = 0;
            return made;
        }
    }

    /** The currents between the steps: n, the level L, and the numbers A. */
    private static final class Currents {
        int parts = 4;
        int level = 10;
        private final int[] numbers = new int[TOP_PARTS + 1];

        Currents() {
            lay(4, 10);
        }

        void lay(int n, int newLevel) {
            parts = n;
            level = newLevel;
            for (int p = 0; p <= n && p < numbers.length && n > 0; p++) {
                numbers[p] = newLevel * (n - p) / n;
            }
        }

        void put(int p, int a) {
            if (isWithin(p, 0, TOP_PARTS)) {
                numbers[p] = a;
            }
        }

        /** A(p). */
        private int numberAt(int p) {
            return isWithin(p, 0, TOP_PARTS) ? numbers[p] : 0;
        }

        private int quarterOf(int p) {
            return parts < 1 ? 0 : p / parts % 4;
        }

        private int restOf(int p) {
            return parts < 1 ? 0 : p % parts;
        }

        int firstAt(int p) {
            int r = restOf(p);
            switch (quarterOf(p)) {
                case 0:
                    return numberAt(r);
                case 1:
                    return -numberAt(parts - r);
                case 2:
                    return -numberAt(r);
                default:
                    return numberAt(parts - r);
            }
        }

        int secondAt(int p) {
            int r = restOf(p);
            switch (quarterOf(p)) {
                case 0:
                    return numberAt(parts - r);
                case 1:
                    return numberAt(r);
                case 2:
                    return -numberAt(parts - r);
                default:
                    return -numberAt(r);
            }
        }

        private int missOfPair(int x, int y) {
            return Math.abs(x * x + y * y - level * level);
        }

        int missOf(int p) {
            return missOfPair(numberAt(p), numberAt(parts - p));
        }

        int greatestMiss() {
            int greatest = 0;
            for (int p = 0; p <= parts; p++) {
                greatest = Math.max(greatest, missOf(p));
            }
            return greatest;
        }

        /** SMOOTHING. */
        void even() {
            for (int p = 0; 2 * p <= parts; p++) {
                if (2 * p == parts) {
                    evenMiddle(p);
                } else {
                    evenPair(p);
                }
            }
        }

        /** From the greatest x down, so that of those that are alike the greater x stays. */
        private void evenMiddle(int p) {
            int best = level;
            for (int x = level - 1; x >= 0; x--) {
                if (missOfPair(x, x) < missOfPair(best, best)) {
                    best = x;
                }
            }
            put(p, best);
        }

        /**
         * Each x has one y that is nearest (two can't be alike near: y squared and the next square are
         * an odd number apart), and it only grows while x falls, till x itself bounds it.
         */
        private void evenPair(int p) {
            int bestX = level;
            int bestY = 0;
            int y = 0;
            for (int x = level; x >= 0; x--) {
                y = Math.min(y, x);
                while (y < x && missOfPair(x, y + 1) < missOfPair(x, y)) {
                    y++;
                }
                int nearer = missOfPair(x, y) - missOfPair(bestX, bestY);
                if (nearer < 0 || nearer == 0 && apart(p, x, y) < apart(p, bestX, bestY)) {
                    bestX = x;
                    bestY = y;
                }
            }
            put(p, bestX);
            put(parts - p, bestY);
        }

        private int apart(int p, int x, int y) {
            return Math.abs(x * p - y * (parts - p));
        }
    }
}
