/** Promises 1 to 9: a new object, what is told, RAMPS and SLOWINGS. The answers were found by hand. */
public final class RampPromises {
    private static final Check check = new Check("RampPromises");

    public static void main(String[] args) {
        promise1();
        promise1Told();
        promise1Loads();
        promise1Pulls();
        promise2();
        promise2Refused();
        promise3();
        promise3Refused();
        promise4();
        promise4Refused();
        promise5();
        promise5Refused();
        promise6();
        promise7();
        promise8();
        promise9();
        promise9OnlySafe();
        promise9Alike();
        promise9Refused();
        check.end();
    }

    /** Speed 6, change 2, jerk 4: the document's RAMPS turn fast enough to be written out by hand. */
    private static RampDriver fast() {
        RampDriver x = new RampDriver();
        check.due("limits(6,2,4)", x.limits(6, 2, 4), true);
        return x;
    }

    private static void dueSpeeds(String told, RampDriver x, int n, int... speeds) {
        check.due(told + " ramp(" + n + ")", x.ramp(n), speeds.length);
        for (int t = 0; t < speeds.length; t++) {
            check.due(told + " speed(" + n + "," + t + ")", x.speed(n, t), speeds[t]);
        }
        check.due(told + " speed behind the last TICK", x.speed(n, speeds.length), -1);
        check.due(told + " speed ahead of the first TICK", x.speed(n, -1), -1);
    }

    private static void dueSlowing(String told, RampDriver x, int v, int a, int ticks, int steps, int change) {
        String call = told + " slowing(" + v + "," + a + ",";
        check.due(call + "0)", x.slowing(v, a, 0), ticks);
        check.due(call + "1)", x.slowing(v, a, 1), steps);
        check.due(call + "2)", x.slowing(v, a, 2), change);
    }

    private static void promise1() {
        RampDriver x = new RampDriver();
        for (int what = -1; what <= 9; what++) {
            check.due("new state(" + what + ")", x.state(what), what >= 0 && what <= 8 && what != 7 ? 0 : -1);
        }
        for (int axis = 0; axis < 3; axis++) {
            check.due("new place(" + axis + ",false)", x.place(axis, false), 0);
            check.due("new place(" + axis + ",true)", x.place(axis, true), 0);
            check.due("new on(" + axis + ")", x.on(axis), -1);
            check.due("new home(" + axis + ")", x.home(axis), -1);
        }
        check.due("new tick(1)", x.tick(1), -1);
        check.due("new stop()", x.stop(), -1);
        int[] first = {10, 7, 5, 2, 0};
        for (int p = 0; p <= 4; p++) {
            check.due("new current(" + p + ",0)", x.current(p, 0), first[p]);
        }
        check.due("new miss(5)", x.miss(5), -1);
        check.due("new evenness()", x.evenness(), 50);
        check.due("NONE", RampDriver.NONE, -1);
    }

    private static void promise1Told() {
        RampDriver x = new RampDriver();
        check.due("V is 6: slowing(6,0,0)", x.slowing(6, 0, 0) > 0, true);
        check.due("V is 6: slowing(7,0,0)", x.slowing(7, 0, 0), -1);
        check.due("A is 2: slowing(0,2,0)", x.slowing(0, 2, 0), 3);
        check.due("A is 2: slowing(0,3,0)", x.slowing(0, 3, 0), -1);
        check.due("J is 1: slowing(0,1,0)", x.slowing(0, 1, 0), 0);
        for (int v = 1; v <= 12; v++) {
            check.due("none BAD: bad(" + v + ",false)", x.bad(v, false), false);
        }
        check.due("not only SAFE: only(false)", x.only(false), false);
        check.due("only(true)", x.only(true), true);
        check.due("LOAD is 0: ramp(12)", x.ramp(12) > 0, true);
        check.due("load(100,0)", x.load(100, 0), true);
        check.due("PULL is 100: ramp(12)", x.ramp(12) > 0, true);
        check.due("load(101,0)", x.load(101, 0), true);
        check.due("PULL is 100: ramp(12)", x.ramp(12), -1);
    }

    /** With no LOAD and no MASS a PULL of 0 is enough. */
    private static void promise1Loads() {
        RampDriver x = new RampDriver();
        check.due("only(true)", x.only(true), true);
        for (int v = 0; v <= 12; v++) {
            check.due("pull(" + v + ",0)", x.pull(v, 0), true);
        }
        dueSpeeds("no PULL", x, 6, 1, 2, 2, 1, 0);
        check.due("load(1,0)", x.load(1, 0), true);
        check.due("no PULL, LOAD 1: ramp(6)", x.ramp(6), -1);
    }

    /** Each speed's PULL is 100 at first: at 12 1 1 the RAMP of 200 has them all, and loses what is at 101. */
    private static void promise1Pulls() {
        for (int v = 0; v <= 12; v++) {
            RampDriver x = new RampDriver();
            check.due("limits(12,1,1)", x.limits(12, 1, 1), true);
            for (int other = 0; other <= 12; other++) {
                check.due("pull", other == v || x.pull(other, 1000), true);
            }
            check.due("only(true)", x.only(true), true);
            check.due("load(100,0)", x.load(100, 0), true);
            int ticks = x.ramp(200);
            int stepsAtSpeed = 0;
            for (int t = 0; t < ticks; t++) {
                stepsAtSpeed += x.speed(200, t) == v ? v : 0;
            }
            check.due("all speeds are gone through", stepsAtSpeed >= v, true);
            check.due("load(101,0)", x.load(101, 0), true);
            check.due("101 at " + v + ": ramp(200)", x.ramp(200) == ticks, false);
            check.due("only(false)", x.only(false), true);
            check.due("move(200,0,0)", x.move(200, 0, 0), ticks);
            check.due("tick(1000)", x.tick(1000), ticks);
            check.due("101 at " + v + ": state(6)", x.state(6), stepsAtSpeed);
        }
    }

    private static void promise2() {
        RampDriver x = new RampDriver();
        dueSpeeds("6 2 1", x, 6, 1, 2, 2, 1, 0);
        check.due("limits(1,1,1)", x.limits(1, 1, 1), true);
        dueSpeeds("1 1 1", x, 6, 1, 1, 1, 1, 1, 1, 0);
        check.due("limits(1,1,1) again", x.limits(1, 1, 1), true);
        check.due("limits(2,1,1)", x.limits(2, 1, 1), true);
        dueSpeeds("2 1 1", x, 8, 1, 2, 2, 2, 1, 0);
        check.due("limits(12,4,4)", x.limits(12, 4, 4), true);
        dueSpeeds("12 4 4", x, 8, 4, 4, 0);
        // 8 and more in one TICK ahead of rest would be a change of more than 4.
        dueSpeeds("12 4 4", x, 48, 4, 8, 12, 12, 8, 4, 0);
        check.due("limits(11,4,4)", x.limits(11, 4, 4), true);
        check.due("V 11: slowing(12,0,0)", x.slowing(12, 0, 0), -1);
        check.due("limits(12,3,4)", x.limits(12, 3, 4), true);
        dueSpeeds("12 3 4", x, 6, 3, 3, 0);
        check.due("limits(12,4,3)", x.limits(12, 4, 3), true);
        dueSpeeds("12 4 3", x, 6, 3, 3, 0);
        check.due("limits(12,4,3): slowing(0,4,0)", x.slowing(0, 4, 0) > 0, true);
    }

    private static void promise2Refused() {
        int[][] wrong = {{0, 2, 4}, {13, 2, 4}, {6, 0, 4}, {6, 5, 4}, {6, 2, 0}, {6, 2, 5}, {-6, 2, 4}, {6, -2, 4},
            {6, 2, -4}, {Integer.MAX_VALUE, 2, 4}, {6, Integer.MIN_VALUE, 4}, {6, 2, Integer.MAX_VALUE}};
        RampDriver x = fast();
        for (int[] one : wrong) {
            check.due("limits(" + one[0] + "," + one[1] + "," + one[2] + ")", x.limits(one[0], one[1], one[2]), false);
            dueSpeeds("behind refused limits", x, 6, 2, 3, 1, 0);
        }
        check.due("move(6,0,0)", x.move(6, 0, 0), 4);
        check.due("limits in a MOVE", x.limits(5, 1, 1), false);
        check.due("tick(3)", x.tick(3), 3);
        check.due("limits in the last TICK of a MOVE", x.limits(5, 1, 1), false);
        dueSpeeds("in a MOVE", x, 6, 2, 3, 1, 0);
        check.due("tick(1)", x.tick(1), 1);
        check.due("limits behind a MOVE", x.limits(1, 1, 1), true);
        dueSpeeds("behind a MOVE", x, 2, 1, 1, 0);
    }

    private static void promise3() {
        RampDriver x = new RampDriver();
        dueSpeeds("none BAD", x, 6, 1, 2, 2, 1, 0);
        check.due("bad(2,true)", x.bad(2, true), true);
        dueSpeeds("2 BAD", x, 6, 1, 1, 1, 1, 1, 1, 0);
        check.due("bad(1,true)", x.bad(1, true), true);
        check.due("1 and 2 BAD: ramp(6)", x.ramp(6), -1);
        check.due("bad(2,false)", x.bad(2, false), true);
        dueSpeeds("1 BAD", x, 6, 1, 2, 2, 1, 0);
        check.due("1 BAD: ramp(2)", x.ramp(2), -1);
        check.due("bad(1,false)", x.bad(1, false), true);
        dueSpeeds("none BAD again", x, 2, 1, 1, 0);
        // Speed 0 may be kept ever; a BAD speed may be gone through, and ended at by a change.
        RampDriver y = new RampDriver();
        check.due("limits(2,1,2)", y.limits(2, 1, 2), true);
        check.due("bad(1,true)", y.bad(1, true), true);
        dueSpeeds("1 BAD", y, 2, 1, 0, 1, 0);
        RampDriver z = new RampDriver();
        check.due("limits(12,4,4)", z.limits(12, 4, 4), true);
        dueSlowing("12 not BAD", z, 12, 4, 4, 24, 0);
        check.due("bad(12,true)", z.bad(12, true), true);
        dueSlowing("12 BAD", z, 12, 4, -1, -1, -1);
    }

    private static void promise3Refused() {
        RampDriver x = new RampDriver();
        int[] wrong = {0, 13, -1, Integer.MAX_VALUE, Integer.MIN_VALUE};
        for (int v : wrong) {
            check.due("bad(" + v + ",true)", x.bad(v, true), false);
            check.due("bad(" + v + ",false)", x.bad(v, false), false);
        }
        for (int v = 1; v <= 12; v++) {
            check.due("bad(" + v + ",false) at first", x.bad(v, false), false);
            check.due("bad(" + v + ",true)", x.bad(v, true), true);
            check.due("bad(" + v + ",true) again", x.bad(v, true), false);
            check.due("bad(" + v + ",false)", x.bad(v, false), true);
            check.due("bad(" + v + ",false) again", x.bad(v, false), false);
        }
        dueSpeeds("none BAD", x, 6, 1, 2, 2, 1, 0);
        check.due("move(6,0,0)", x.move(6, 0, 0), 5);
        check.due("bad in a MOVE", x.bad(2, true), false);
        dueSpeeds("in a MOVE", x, 6, 1, 2, 2, 1, 0);
        check.due("tick(5)", x.tick(5), 5);
        check.due("bad behind a MOVE", x.bad(2, true), true);
    }

    private static void promise4() {
        for (int v = 0; v <= 6; v++) {
            RampDriver x = fast();
            check.due("load(100,0)", x.load(100, 0), true);
            check.due("pull(" + v + ",99)", x.pull(v, 99), true);
            // The RAMP of 12 is 2 4 4 2 0, the one of 6 is 2 3 1 0.
            int[][] missed = {{0, 0, 4, 0, 8, 0, 0}, {0, 1, 2, 3, 0, 0, 0}};
            int[][] first = {{-1, -1, 0, -1, 1, -1, -1}, {-1, 2, 0, 1, -1, -1, -1}};
            for (int i = 0; i < 2; i++) {
                String told = "pull(" + v + ",99) move " + i + " ";
                check.due(told, x.move(i == 0 ? 12 : 6, 0, 0), 5 - i);
                check.due(told + "tick(9)", x.tick(9), 5 - i);
                check.due(told + "state(6)", x.state(6), missed[i][v]);
                check.due(told + "state(7)", x.state(7), first[i][v]);
            }
        }
        RampDriver y = new RampDriver();
        check.due("only(true)", y.only(true), true);
        check.due("load(1000,0)", y.load(1000, 0), true);
        check.due("limits(2,2,2)", y.limits(2, 2, 2), true);
        check.due("pull(0,1000)", y.pull(0, 1000), true);
        check.due("0 alone: ramp(2)", y.ramp(2), -1);
        check.due("pull(2,1000)", y.pull(2, 1000), true);
        dueSpeeds("0 and 2", y, 4, 2, 2, 0);
        check.due("pull(2,999)", y.pull(2, 999), true);
        check.due("0 and not 2: ramp(4)", y.ramp(4), -1);
        check.due("pull(2,1000)", y.pull(2, 1000), true);
        check.due("pull(0,0)", y.pull(0, 0), true);
        check.due("2 and not 0: ramp(4)", y.ramp(4), -1);
        RampDriver z = new RampDriver();
        check.due("limits(12,4,4)", z.limits(12, 4, 4), true);
        check.due("pull(12,5)", z.pull(12, 5), true);
        check.due("load(6,0)", z.load(6, 0), true);
        check.due("move(48,0,0)", z.move(48, 0, 0), 7);
        check.due("tick(7)", z.tick(7), 7);
        check.due("12 missed: state(6)", z.state(6), 24);
    }

    private static void promise4Refused() {
        RampDriver x = new RampDriver();
        check.due("only(true)", x.only(true), true);
        check.due("load(100,0)", x.load(100, 0), true);
        int[][] wrong = {{-1, 0}, {13, 0}, {0, -1}, {1, 1001}, {1, -1}, {Integer.MIN_VALUE, 0}, {Integer.MAX_VALUE, 0},
            {1, Integer.MIN_VALUE}, {1, Integer.MAX_VALUE}};
        for (int[] one : wrong) {
            check.due("pull(" + one[0] + "," + one[1] + ")", x.pull(one[0], one[1]), false);
            dueSpeeds("behind a refused pull", x, 2, 1, 1, 0);
        }
        check.due("pull(12,0)", x.pull(12, 0), true);
        check.due("pull(12,0) again", x.pull(12, 0), true);
        check.due("pull(12,1000)", x.pull(12, 1000), true);
        check.due("move(2,0,0)", x.move(2, 0, 0), 3);
        check.due("pull in a MOVE", x.pull(1, 0), false);
        check.due("tick(9)", x.tick(9), 3);
        check.due("state(6)", x.state(6), 0);
        check.due("pull behind a MOVE", x.pull(1, 0), true);
        check.due("ramp(2)", x.ramp(2), -1);
    }

    private static void promise5() {
        RampDriver x = fast();
        check.due("only(true)", x.only(true), true);
        check.due("load(0,50)", x.load(0, 50), true);
        dueSpeeds("50 a change", x, 6, 2, 3, 1, 0);
        check.due("load(0,51)", x.load(0, 51), true);
        dueSpeeds("51 a change", x, 6, 1, 2, 2, 1, 0);
        check.due("load(98,1)", x.load(98, 1), true);
        dueSpeeds("98 and 1 a change", x, 6, 2, 3, 1, 0);
        check.due("load(99,1)", x.load(99, 1), true);
        dueSpeeds("99 and 1 a change", x, 6, 1, 2, 2, 1, 0);
        check.due("load(100,1)", x.load(100, 1), true);
        check.due("100 and 1 a change: ramp(6)", x.ramp(6), -1);
        check.due("100 and 1 a change: ramp(0)", x.ramp(0), 0);
        check.due("load(0,0)", x.load(0, 0), true);
        check.due("load(0,0) again", x.load(0, 0), true);
        dueSpeeds("no load", x, 6, 2, 3, 1, 0);
    }

    private static void promise5Refused() {
        RampDriver x = new RampDriver();
        check.due("only(true)", x.only(true), true);
        int[][] wrong = {{-1, 0}, {1001, 0}, {1000, -1}, {1000, 101}, {Integer.MIN_VALUE, 0}, {Integer.MAX_VALUE, 0},
            {1000, Integer.MIN_VALUE}, {1000, Integer.MAX_VALUE}};
        for (int[] one : wrong) {
            check.due("load(" + one[0] + "," + one[1] + ")", x.load(one[0], one[1]), false);
            dueSpeeds("behind a refused load", x, 2, 1, 1, 0);
        }
        check.due("load(0,100)", x.load(0, 100), true);
        dueSpeeds("100 a change", x, 2, 1, 1, 0);
        check.due("move(2,0,0)", x.move(2, 0, 0), 3);
        check.due("load in a MOVE", x.load(1000, 100), false);
        check.due("tick(3)", x.tick(3), 3);
        check.due("state(6)", x.state(6), 0);
        check.due("load(1000,100)", x.load(1000, 100), true);
        check.due("ramp(2)", x.ramp(2), -1);
    }

    private static void promise6() {
        RampDriver x = new RampDriver();
        check.due("only(false) at first", x.only(false), false);
        check.due("load(101,0)", x.load(101, 0), true);
        check.due("any: ramp(2)", x.ramp(2), 3);
        check.due("only(true)", x.only(true), true);
        check.due("SAFE alone: ramp(2)", x.ramp(2), -1);
        check.due("only(true) again", x.only(true), false);
        check.due("SAFE alone: ramp(2)", x.ramp(2), -1);
        check.due("SAFE alone: ramp(0)", x.ramp(0), 0);
        check.due("only(false)", x.only(false), true);
        check.due("any: ramp(2)", x.ramp(2), 3);
        check.due("only(false) again", x.only(false), false);
        check.due("move(2,0,0)", x.move(2, 0, 0), 3);
        check.due("only in a MOVE", x.only(true), false);
        check.due("in a MOVE: ramp(2)", x.ramp(2), 3);
        check.due("tick(3)", x.tick(3), 3);
        check.due("only behind a MOVE", x.only(true), true);
    }

    private static void promise7() {
        RampDriver x = new RampDriver();
        check.due("ramp(0)", x.ramp(0), 0);
        check.due("ramp(1)", x.ramp(1), -1);
        check.due("ramp(-1)", x.ramp(-1), -1);
        check.due("ramp(201)", x.ramp(201), -1);
        check.due("ramp(MIN)", x.ramp(Integer.MIN_VALUE), -1);
        check.due("ramp(MAX)", x.ramp(Integer.MAX_VALUE), -1);
        check.due("limits(1,1,1)", x.limits(1, 1, 1), true);
        check.due("ramp(200)", x.ramp(200), 201);
        check.due("ramp(2)", x.ramp(2), 3);
        check.due("ramp(199)", x.ramp(199), 200);
        check.due("ramp(1)", x.ramp(1), -1);
        check.due("limits(1,1,2)", x.limits(1, 1, 2), true);
        check.due("bad(1,true)", x.bad(1, true), true);
        // Each step by itself: 1, 0, 1, 0 ..: the last REST is as good as (0, 0) to go on from.
        check.due("step by step: ramp(200)", x.ramp(200), 400);
        check.due("step by step: ramp(1)", x.ramp(1), 2);
        check.due("in a MOVE: move(1,0,0)", x.move(1, 0, 0), 2);
        check.due("in a MOVE: ramp(200)", x.ramp(200), 400);
        check.due("limits stay: tick(9)", x.tick(9), 2);
    }

    private static void promise8() {
        RampDriver x = fast();
        dueSpeeds("6 2 4", x, 1, 1, 0);
        dueSpeeds("6 2 4", x, 2, 2, 0);
        dueSpeeds("6 2 4", x, 3, 2, 1, 0);
        dueSpeeds("6 2 4", x, 4, 2, 2, 0);
        dueSpeeds("6 2 4", x, 5, 2, 2, 1, 0);
        dueSpeeds("6 2 4", x, 6, 2, 3, 1, 0);
        dueSpeeds("6 2 4", x, 8, 2, 4, 2, 0);
        dueSpeeds("6 2 4", x, 12, 2, 4, 4, 2, 0);
        check.due("speed(0,0)", x.speed(0, 0), -1);
        check.due("speed(201,0)", x.speed(201, 0), -1);
        check.due("speed(-1,0)", x.speed(-1, 0), -1);
        check.due("speed(MAX,0)", x.speed(Integer.MAX_VALUE, 0), -1);
        check.due("speed(6,MIN)", x.speed(6, Integer.MIN_VALUE), -1);
        check.due("speed(6,MAX)", x.speed(6, Integer.MAX_VALUE), -1);
        RampDriver y = new RampDriver();
        check.due("no RAMP: speed(1,0)", y.speed(1, 0), -1);
        check.due("no RAMP: speed(1,-1)", y.speed(1, -1), -1);
        check.due("limits(1,1,1)", y.limits(1, 1, 1), true);
        check.due("speed(200,199)", y.speed(200, 199), 1);
        check.due("speed(200,200)", y.speed(200, 200), 0);
        check.due("speed(200,201)", y.speed(200, 201), -1);
    }

    private static void promise9() {
        RampDriver x = fast();
        dueSlowing("REST", x, 0, 0, 0, 0, -1);
        dueSlowing("REST", x, 0, 2, 0, 0, -1);
        dueSlowing("REST", x, 0, -2, 0, 0, -1);
        dueSlowing("6 2 4", x, 1, 0, 1, 0, -1);
        dueSlowing("6 2 4", x, 2, 0, 1, 0, -2);
        // 2 0 would be as many TICKS as 1 0, but more steps.
        dueSlowing("6 2 4", x, 3, 0, 2, 1, -2);
        dueSlowing("6 2 4", x, 4, 2, 2, 2, -2);
        dueSlowing("6 2 4", x, 6, 2, 3, 6, -2);
        RampDriver y = new RampDriver();
        dueSlowing("6 2 1", y, 0, 1, 0, 0, -1);
        dueSlowing("6 2 1", y, 0, -1, 0, 0, -1);
        dueSlowing("6 2 1", y, 0, 2, 3, 2, 1);
        dueSlowing("6 2 1", y, 0, -2, -1, -1, -1);
        dueSlowing("no way on", y, 6, 2, -1, -1, -1);
        dueSlowing("no way on", y, 1, -2, 1, 0, -1);
        dueSlowing("6 2 1", y, 3, -2, 2, 1, -2);
        dueSlowing("6 2 1", y, 5, 0, 4, 7, -1);
        check.due("bad(5,true)", y.bad(5, true), true);
        // 6 6 5 3 1 0: 5 may be gone through.
        dueSlowing("5 BAD", y, 5, 1, 6, 21, 1);
    }

    private static void promise9OnlySafe() {
        RampDriver x = fast();
        check.due("load(1,0)", x.load(1, 0), true);
        check.due("pull(2,0)", x.pull(2, 0), true);
        dueSlowing("any", x, 4, 0, 2, 2, -2);
        check.due("only(true)", x.only(true), true);
        dueSlowing("SAFE alone", x, 4, 0, 3, 4, -1);
        check.due("pull(0,0)", x.pull(0, 0), true);
        dueSlowing("no SAFE one", x, 4, 0, 2, 2, -2);
        dueSlowing("REST", x, 0, 0, 0, 0, -1);
        check.due("pull(0,1)", x.pull(0, 1), true);
        dueSlowing("SAFE alone", x, 4, 0, 3, 4, -1);
        check.due("only(false)", x.only(false), true);
        dueSlowing("any", x, 4, 0, 2, 2, -2);
    }

    /** 10 8 5 3 1 0 and 9 8 6 3 1 0 are as few TICKS and steps: the greater change where they first differ. */
    private static void promise9Alike() {
        RampDriver x = new RampDriver();
        check.due("limits(11,3,1)", x.limits(11, 3, 1), true);
        check.due("load(40,4)", x.load(40, 4), true);
        check.due("pull(6,50)", x.pull(6, 50), true);
        check.due("pull(7,42)", x.pull(7, 42), true);
        check.due("only(true)", x.only(true), true);
        dueSlowing("alike", x, 11, -1, 6, 27, -1);
    }

    private static void promise9Refused() {
        RampDriver x = new RampDriver();
        int[][] wrong = {{-1, 0, 0}, {7, 0, 0}, {0, -3, 0}, {0, 3, 0}, {1, 0, -1}, {1, 0, 3}, {Integer.MIN_VALUE, 0, 0},
            {Integer.MAX_VALUE, 0, 0}, {0, Integer.MIN_VALUE, 0}, {0, Integer.MAX_VALUE, 0}, {1, 0, Integer.MIN_VALUE},
            {1, 0, Integer.MAX_VALUE}};
        for (int[] one : wrong) {
            check.due("slowing(" + one[0] + "," + one[1] + "," + one[2] + ")", x.slowing(one[0], one[1], one[2]), -1);
        }
        for (int what : new int[] {-1, 3, Integer.MIN_VALUE, Integer.MAX_VALUE}) {
            // Its TICKS, steps and change are 3, 2 and 1: none of them is NONE.
            check.due("slowing(0,2," + what + ")", x.slowing(0, 2, what), -1);
        }
        check.due("limits(12,4,1)", x.limits(12, 4, 1), true);
        check.due("slowing(12,-4,0)", x.slowing(12, -4, 0) > 0, true);
        check.due("slowing(12,-5,0)", x.slowing(12, -5, 0), -1);
        check.due("slowing(13,-4,0)", x.slowing(13, -4, 0), -1);
    }
}
