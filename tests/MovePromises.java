/** Promises 10 to 17: MOVES, STOP, places, SWITCHES and HOME. The answers were found by hand. */
public final class MovePromises {
    private static final Check check = new Check("MovePromises");
    private static final int[] NO_AXES = {-1, 3, 4, Integer.MIN_VALUE, Integer.MAX_VALUE};

    public static void main(String[] args) {
        promise10();
        promise10Refused();
        promise11();
        promise12();
        promise12Anywhere();
        promise12Between();
        promise12OnlySafe();
        promise12Refused();
        promise13();
        promise13Halves();
        promise13Throws();
        promise14();
        promise14Missed();
        promise14Later();
        promise15();
        promise16();
        promise17();
        promise17Refused();
        check.end();
    }

    /** Speed 6, change 2, jerk 4: the RAMP of 6 is 2 3 1 0, the one of 8 is 2 4 2 0. */
    private static RampDriver fast() {
        RampDriver x = new RampDriver();
        check.due("limits(6,2,4)", x.limits(6, 2, 4), true);
        return x;
    }

    private static void duePlaces(String told, RampDriver x, int... places) {
        for (int axis = 0; axis < 3; axis++) {
            check.due(told + " place(" + axis + ",false)", x.place(axis, false), places[axis]);
        }
    }

    private static void dueTruePlaces(String told, RampDriver x, int... places) {
        for (int axis = 0; axis < 3; axis++) {
            check.due(told + " place(" + axis + ",true)", x.place(axis, true), places[axis]);
        }
    }

    /** All of the state, from 0 to 8. */
    private static void dueState(String told, RampDriver x, int... states) {
        for (int what = 0; what <= 8; what++) {
            check.due(told + " state(" + what + ")", x.state(what), states[what]);
        }
    }

    private static void promise10() {
        RampDriver x = fast();
        check.due("move(3,-6,0)", x.move(3, -6, 0), 4);
        dueState("ahead of the first TICK", x, 1, 0, 0, 0, 6, 0, 0, -1, 0);
        duePlaces("ahead of the first TICK", x, 0, 0, 0);
        check.due("tick(4)", x.tick(4), 4);
        duePlaces("3 -6 0", x, 3, -6, 0);
        check.due("move(0,0,8)", x.move(0, 0, 8), 4);
        dueState("ahead of the first TICK", x, 1, 0, 0, 0, 8, 0, 0, -1, 0);
        check.due("tick(4)", x.tick(4), 4);
        duePlaces("0 0 8", x, 3, -6, 8);
        check.due("move(0,0,0)", x.move(0, 0, 0), 0);
        dueState("over at once", x, 0, 0, 0, 0, 0, 0, 0, -1, 0);
        check.due("tick(1)", x.tick(1), -1);
        check.due("stop()", x.stop(), -1);
        check.due("move(-200,200,1)", x.move(-200, 200, 1) > 0, true);
        check.due("tick(1000)", x.tick(1000) > 0, true);
        duePlaces("-200 200 1", x, -197, 194, 9);
        dueTruePlaces("-200 200 1", x, -197, 194, 9);
        check.due("move(0,0,-200)", x.move(0, 0, -200) > 0, true);
        check.due("state(4)", x.state(4), 200);
    }

    private static void promise10Refused() {
        RampDriver x = fast();
        check.due("move(6,3,0)", x.move(6, 3, 0), 4);
        check.due("tick(4)", x.tick(4), 4);
        int[] wrong = {-201, 201, Integer.MIN_VALUE, Integer.MAX_VALUE};
        for (int d : wrong) {
            check.due("move(" + d + ",0,0)", x.move(d, 0, 0), -1);
            check.due("move(2," + d + ",0)", x.move(2, d, 0), -1);
            check.due("move(2,2," + d + ")", x.move(2, 2, d), -1);
            dueState("behind a refused move", x, 0, 0, -1, 6, 6, 4, 0, -1, 0);
        }
        check.due("limits(6,2,1)", x.limits(6, 2, 1), true);
        check.due("no RAMP: move(1,0,0)", x.move(1, 0, 0), -1);
        check.due("no RAMP: move(0,-1,1)", x.move(0, -1, 1), -1);
        dueState("behind a move without a RAMP", x, 0, 0, -1, 6, 6, 4, 0, -1, 0);
        check.due("move(2,-2,1)", x.move(2, -2, 1), 3);
        check.due("one goes on: move(2,0,0)", x.move(2, 0, 0), -1);
        check.due("one goes on: move(0,0,0)", x.move(0, 0, 0), -1);
        check.due("tick(2)", x.tick(2), 2);
        check.due("one goes on: move(2,0,0)", x.move(2, 0, 0), -1);
        dueState("behind a refused move", x, 1, 1, 0, 2, 2, 2, 0, -1, 0);
        check.due("tick(1)", x.tick(1), 1);
        duePlaces("2 -2 1", x, 8, 1, 1);
        check.due("move(2,0,0)", x.move(2, 0, 0), 3);
    }

    private static void promise11() {
        RampDriver x = fast();
        check.due("no MOVE: tick(0)", x.tick(0), -1);
        check.due("no MOVE: tick(1)", x.tick(1), -1);
        check.due("move(8,0,0)", x.move(8, 0, 0), 4);
        int[] wrong = {-1, 1001, Integer.MIN_VALUE, Integer.MAX_VALUE};
        for (int k : wrong) {
            check.due("tick(" + k + ")", x.tick(k), -1);
            dueState("behind a refused tick", x, 1, 0, 0, 0, 8, 0, 0, -1, 0);
        }
        check.due("tick(0)", x.tick(0), 0);
        dueState("behind tick(0)", x, 1, 0, 0, 0, 8, 0, 0, -1, 0);
        check.due("tick(1)", x.tick(1), 1);
        dueState("behind TICK 0", x, 1, 2, 2, 2, 8, 1, 0, -1, 0);
        duePlaces("behind TICK 0", x, 2, 0, 0);
        check.due("tick(2)", x.tick(2), 2);
        dueState("behind TICK 2", x, 1, 2, -2, 8, 8, 3, 0, -1, 0);
        check.due("tick(1000)", x.tick(1000), 1);
        dueState("behind TICK 3", x, 0, 0, -2, 8, 8, 4, 0, -1, 0);
        check.due("over: tick(1)", x.tick(1), -1);
        check.due("over: tick(0)", x.tick(0), -1);
        check.due("limits(1,1,2)", x.limits(1, 1, 2), true);
        check.due("bad(1,true)", x.bad(1, true), true);
        check.due("move(200,0,0)", x.move(200, 0, 0), 400);
        check.due("tick(399)", x.tick(399), 399);
        check.due("state(0)", x.state(0), 1);
        check.due("state(3)", x.state(3), 200);
        check.due("tick(1000)", x.tick(1000), 1);
        check.due("state(0)", x.state(0), 0);
    }

    private static void promise12() {
        RampDriver x = fast();
        // The RAMP of 20 begins by 2 4 6; in 6 TICKS there are 18 steps at most.
        check.due("move(20,-10,5)", x.move(20, -10, 5), 7);
        check.due("tick(2)", x.tick(2), 2);
        check.due("state(3)", x.state(3), 6);
        check.due("slowing(4,2,0)", x.slowing(4, 2, 0), 2);
        check.due("stop()", x.stop(), 2);
        dueState("stopped", x, 1, 4, 2, 6, 20, 2, 0, -1, 1);
        check.due("stop() again", x.stop(), -1);
        check.due("tick(1)", x.tick(1), 1);
        dueState("slowing", x, 1, 2, -2, 8, 20, 3, 0, -1, 1);
        check.due("stop() again", x.stop(), -1);
        check.due("tick(9)", x.tick(9), 1);
        dueState("over", x, 0, 0, -2, 8, 20, 4, 0, -1, 1);
        duePlaces("8 of 20", x, 8, -4, 2);
        check.due("limits behind it", x.limits(6, 2, 4), true);
        // Ahead of the first TICK it is at REST.
        check.due("move(20,0,0)", x.move(20, 0, 0), 7);
        check.due("stop()", x.stop(), 0);
        dueState("over at once", x, 0, 0, 0, 0, 20, 0, 0, -1, 1);
        check.due("tick(1)", x.tick(1), -1);
        check.due("stop() behind it", x.stop(), -1);
        check.due("move(6,0,0)", x.move(6, 0, 0), 4);
        dueState("the next one", x, 1, 0, 0, 0, 6, 0, 0, -1, 0);
        // In the midst of a MOVE at REST too.
        RampDriver y = new RampDriver();
        check.due("limits(2,1,2)", y.limits(2, 1, 2), true);
        check.due("bad(1,true)", y.bad(1, true), true);
        check.due("move(2,0,0)", y.move(2, 0, 0), 4);
        check.due("tick(2)", y.tick(2), 2);
        check.due("stop()", y.stop(), 0);
        dueState("over at REST", y, 0, 0, -1, 1, 2, 2, 0, -1, 1);
        duePlaces("1 of 2", y, 1, 0, 0);
    }

    /** Behind each TICK of many MOVES; the plain model tells where the axes are then. */
    private static void promise12Anywhere() {
        int[][] limits = {{6, 2, 4}, {6, 2, 1}, {12, 4, 4}, {12, 4, 1}, {9, 3, 2}, {5, 4, 3}, {2, 1, 2}};
        for (int[] one : limits) {
            for (int n = 3; n <= 48; n += 9) {
                RampDriver x = new RampDriver();
                Plain model = new Plain();
                x.limits(one[0], one[1], one[2]);
                model.limits(one[0], one[1], one[2]);
                check.due("bad(2,true)", x.bad(2, true), model.bad(2, true));
                stopAnywhere(x, model, n);
            }
        }
    }

    private static void stopAnywhere(RampDriver x, Plain model, int n) {
        int ticks = model.ramp(n);
        for (int k = 0; k < ticks; k++) {
            String told = " of " + n + " behind " + k;
            check.due("move" + told, x.move(n, -n / 2, n - 1), model.move(n, -n / 2, n - 1));
            check.due("tick" + told, x.tick(k), model.tick(k));
            check.due("stop" + told, x.stop(), model.stop());
            check.due("tick(1000)" + told, x.tick(1000), model.tick(1000));
            check.due("state(3)" + told, x.state(3), model.state(3));
            check.due("state(5)" + told, x.state(5), model.state(5));
            duePlaces(told, x, model.place(0, false), model.place(1, false), model.place(2, false));
        }
    }

    private static void promise12Between() {
        RampDriver x = new RampDriver();
        check.due("limits(1,1,1)", x.limits(1, 1, 1), true);
        // 1 1 1 0: from (1, 1) the SLOWING is 1 0.
        check.due("move(3,-3,2)", x.move(3, -3, 2), 4);
        check.due("tick(1)", x.tick(1), 1);
        check.due("stop()", x.stop(), 2);
        check.due("tick(9)", x.tick(9), 2);
        dueState("2 of 3", x, 0, 0, -1, 2, 3, 3, 0, -1, 1);
        duePlaces("2 of 3", x, 2, -2, 1);
    }

    private static void promise12OnlySafe() {
        RampDriver x = fast();
        check.due("load(1,0)", x.load(1, 0), true);
        check.due("pull(2,0)", x.pull(2, 0), true);
        check.due("only(true)", x.only(true), true);
        // Without speed 2 all speeds up to 4 go by 1 and 3; SAFE SLOWING from (4, 1) is 3 1 0.
        check.due("ramp(12)", x.ramp(12), 6);
        check.due("move(12,0,0)", x.move(12, 0, 0), 6);
        check.due("speed(12,2)", x.speed(12, 2), 4);
        check.due("tick(3)", x.tick(3), 3);
        check.due("state(1)", x.state(1), 4);
        check.due("stop()", x.stop(), 3);
        check.due("tick(9)", x.tick(9), 3);
        dueState("SAFE alone", x, 0, 0, -1, 12, 12, 6, 0, -1, 1);
        check.due("only(false)", x.only(false), true);
        check.due("limits(4,1,1)", x.limits(4, 1, 1), true);
        check.due("move(9,9,9)", x.move(9, 9, 9) > 0, true);
        check.due("tick(2)", x.tick(2), 2);
        check.due("stop()", x.stop(), x.slowing(x.state(1), x.state(2), 0));
        check.due("tick(20)", x.tick(20) > 0, true);
        check.due("state(0)", x.state(0), 0);
    }

    private static void promise12Refused() {
        RampDriver x = fast();
        check.due("no MOVE: stop()", x.stop(), -1);
        check.due("state(8)", x.state(8), 0);
        check.due("move(6,0,0)", x.move(6, 0, 0), 4);
        check.due("tick(4)", x.tick(4), 4);
        check.due("over: stop()", x.stop(), -1);
        dueState("over", x, 0, 0, -1, 6, 6, 4, 0, -1, 0);
        check.due("move(6,0,0)", x.move(6, 0, 0), 4);
        check.due("tick(1)", x.tick(1), 1);
        check.due("stop()", x.stop(), 1);
        check.due("limits in it", x.limits(6, 2, 4), false);
        check.due("bad in it", x.bad(1, true), false);
        check.due("pull in it", x.pull(1, 1), false);
        check.due("load in it", x.load(1, 1), false);
        check.due("only in it", x.only(true), false);
        check.due("move in it", x.move(1, 1, 1), -1);
        check.due("at in it", x.at(0, 0), true);
        check.due("home in it", x.home(0), -1);
        check.due("stop() again", x.stop(), -1);
        dueState("stopped", x, 1, 2, 2, 2, 6, 1, 0, -1, 1);
        check.due("tick(1)", x.tick(1), 1);
        check.due("home behind it", x.home(0) > 0, true);
    }

    private static void promise13() {
        RampDriver x = fast();
        check.due("move(12,-7,1)", x.move(12, -7, 1), 5);
        // 2 4 4 2 0: behind 2, 6, 10, 12 of 12 steps.
        int[][] places = {{2, -1, 0}, {6, -4, 1}, {10, -6, 1}, {12, -7, 1}, {12, -7, 1}};
        for (int t = 0; t < 5; t++) {
            check.due("tick(1)", x.tick(1), 1);
            duePlaces("TICK " + t, x, places[t]);
            dueTruePlaces("TICK " + t, x, places[t]);
        }
        check.due("move(-12,7,-1)", x.move(-12, 7, -1), 5);
        for (int t = 0; t < 5; t++) {
            check.due("tick(1)", x.tick(1), 1);
            duePlaces("back TICK " + t, x, 12 - places[t][0], -7 - places[t][1], 1 - places[t][2]);
        }
        check.due("load(101,0)", x.load(101, 0), true);
        check.due("pull(4,101)", x.pull(4, 101), true);
        check.due("move(12,-7,1)", x.move(12, -7, 1), 5);
        check.due("tick(5)", x.tick(5), 5);
        duePlaces("missed", x, 12, -7, 1);
        // Just the TICKS from 2 to 6 and from 6 to 10 steps count.
        dueTruePlaces("missed", x, 8, -5, 1);
    }

    /** Of two that are alike near the one farther from 0; from where the axis stands, not from 0 itself. */
    private static void promise13Halves() {
        RampDriver x = new RampDriver();
        check.due("limits(1,1,1)", x.limits(1, 1, 1), true);
        check.due("move(2,1,-1)", x.move(2, 1, -1), 3);
        check.due("tick(1)", x.tick(1), 1);
        duePlaces("1 of 2", x, 1, 1, -1);
        check.due("tick(2)", x.tick(2), 2);
        duePlaces("2 of 2", x, 2, 1, -1);
        check.due("move(-2,-1,1)", x.move(-2, -1, 1), 3);
        check.due("tick(1)", x.tick(1), 1);
        duePlaces("1 of 2 back", x, 1, 0, 0);
        check.due("tick(2)", x.tick(2), 2);
        duePlaces("2 of 2 back", x, 0, 0, 0);
        check.due("move(4,-3,1)", x.move(4, -3, 1), 5);
        int[][] places = {{1, -1, 0}, {2, -2, 1}, {3, -2, 1}, {4, -3, 1}};
        for (int t = 0; t < 4; t++) {
            check.due("tick(1)", x.tick(1), 1);
            duePlaces("TICK " + t + " of 4 -3 1", x, places[t]);
        }
        check.due("tick(1)", x.tick(1), 1);
        check.due("move(6,5,-2)", x.move(6, 5, -2), 7);
        int[][] more = {{5, -2, 1}, {6, -1, 0}, {7, 0, 0}, {8, 0, 0}, {9, 1, -1}, {10, 2, -1}};
        for (int t = 0; t < 6; t++) {
            check.due("tick(1)", x.tick(1), 1);
            duePlaces("TICK " + t + " of 6 5 -2", x, more[t]);
        }
    }

    private static void promise13Throws() {
        RampDriver x = fast();
        for (int axis : NO_AXES) {
            check.dueThrow("place(" + axis + ",false)", () -> x.place(axis, false));
            check.dueThrow("place(" + axis + ",true)", () -> x.place(axis, true));
        }
        check.due("move(6,0,0)", x.move(6, 0, 0), 4);
        check.dueThrow("place(3,true) in a MOVE", () -> x.place(3, true));
        dueState("behind a throw", x, 1, 0, 0, 0, 6, 0, 0, -1, 0);
        duePlaces("behind a throw", x, 0, 0, 0);
    }

    private static void promise14() {
        RampDriver x = fast();
        int[] wrong = {-1, 9, 10, Integer.MIN_VALUE, Integer.MAX_VALUE};
        for (int what : wrong) {
            check.due("state(" + what + ")", x.state(what), -1);
        }
        dueState("ahead of the first MOVE", x, 0, 0, 0, 0, 0, 0, 0, -1, 0);
        check.due("move(6,-1,0)", x.move(6, -1, 0), 4);
        dueState("started", x, 1, 0, 0, 0, 6, 0, 0, -1, 0);
        int[][] states = {{1, 2, 2, 2, 6, 1, 0, -1, 0}, {1, 3, 1, 5, 6, 2, 0, -1, 0}, {1, 1, -2, 6, 6, 3, 0, -1, 0},
            {0, 0, -1, 6, 6, 4, 0, -1, 0}};
        for (int t = 0; t < 4; t++) {
            check.due("tick(1)", x.tick(1), 1);
            dueState("behind TICK " + t, x, states[t]);
        }
        check.due("move(0,0,0)", x.move(0, 0, 0), 0);
        dueState("nothing to go", x, 0, 0, 0, 0, 0, 0, 0, -1, 0);
    }

    private static void promise14Missed() {
        RampDriver x = fast();
        check.due("pull(3,99)", x.pull(3, 99), true);
        check.due("pull(0,99)", x.pull(0, 99), true);
        check.due("load(100,0)", x.load(100, 0), true);
        check.due("move(6,0,0)", x.move(6, 0, 0), 4);
        int[][] states = {{1, 2, 2, 2, 6, 1, 0, -1, 0}, {1, 3, 1, 5, 6, 2, 3, 1, 0}, {1, 1, -2, 6, 6, 3, 3, 1, 0},
            {0, 0, -1, 6, 6, 4, 3, 1, 0}};
        for (int t = 0; t < 4; t++) {
            check.due("tick(1)", x.tick(1), 1);
            dueState("3 missed, TICK " + t, x, states[t]);
        }
        // The last TICK is not SAFE, but has no step; in the next MOVE there is nothing else.
        check.due("move(2,0,0)", x.move(2, 0, 0), 2);
        check.due("tick(2)", x.tick(2), 2);
        dueState("a still TICK", x, 0, 0, -2, 2, 2, 2, 0, -1, 0);
        // By MASS: changes of 2 are too much, those of 1 are not.
        RampDriver y = fast();
        check.due("load(0,51)", y.load(0, 51), true);
        check.due("move(6,6,6)", y.move(6, 6, 6), 4);
        check.due("tick(4)", y.tick(4), 4);
        dueState("changes of 2 missed", y, 0, 0, -1, 6, 6, 4, 3, 0, 0);
        dueTruePlaces("changes of 2 missed", y, 3, 3, 3);
        check.due("load(0,50)", y.load(0, 50), true);
        check.due("move(6,6,6)", y.move(6, 6, 6), 4);
        check.due("tick(4)", y.tick(4), 4);
        dueState("none missed", y, 0, 0, -1, 6, 6, 4, 0, -1, 0);
        duePlaces("none missed", y, 12, 12, 12);
        dueTruePlaces("none missed", y, 9, 9, 9);
    }

    /** Missed steps count in SLOWING too, and their TICK counts from the MOVE's first one. */
    private static void promise14Later() {
        RampDriver x = fast();
        check.due("pull(2,0)", x.pull(2, 0), true);
        check.due("load(0,1)", x.load(0, 1), true);
        check.due("pull(1,0)", x.pull(1, 0), true);
        check.due("move(20,20,-10)", x.move(20, 20, -10), 7);
        check.due("tick(2)", x.tick(2), 2);
        dueState("2 missed", x, 1, 4, 2, 6, 20, 2, 2, 0, 0);
        check.due("stop()", x.stop(), 2);
        check.due("tick(2)", x.tick(2), 2);
        dueState("4 missed", x, 0, 0, -2, 8, 20, 4, 4, 0, 1);
        duePlaces("4 missed", x, 8, 8, -4);
        dueTruePlaces("4 missed", x, 4, 4, -2);
        check.due("limits(6,4,4)", x.limits(6, 4, 4), true);
        check.due("pull(2,100)", x.pull(2, 100), true);
        check.due("move(7,0,0)", x.move(7, 0, 0), x.ramp(7));
        check.due("state(7)", x.state(7), -1);
        check.due("state(6)", x.state(6), 0);
        check.due("state(8)", x.state(8), 0);
    }

    private static void promise15() {
        RampDriver x = fast();
        for (int axis : NO_AXES) {
            check.due("at(" + axis + ",0)", x.at(axis, 0), false);
        }
        int[] wrong = {-2001, 2001, Integer.MIN_VALUE, Integer.MAX_VALUE};
        for (int s : wrong) {
            check.due("at(0," + s + ")", x.at(0, s), false);
            check.due("on(0) behind a refused at", x.on(0), -1);
        }
        check.due("at(0,-2000)", x.at(0, -2000), true);
        check.due("on(0)", x.on(0), 1);
        check.due("at(0,2001)", x.at(0, 2001), false);
        check.due("on(0)", x.on(0), 1);
        check.due("at(0,2000)", x.at(0, 2000), true);
        check.due("on(0)", x.on(0), 0);
        check.due("at(0,2000) again", x.at(0, 2000), true);
        check.due("on(1)", x.on(1), -1);
        check.due("on(2)", x.on(2), -1);
        check.due("move(6,0,0)", x.move(6, 0, 0), 4);
        check.due("at(2,0) in a MOVE", x.at(2, 0), true);
        check.due("on(2) in a MOVE", x.on(2), 1);
        check.due("at(1,1) in a MOVE", x.at(1, 1), true);
        check.due("on(1) in a MOVE", x.on(1), 0);
    }

    private static void promise16() {
        RampDriver x = fast();
        for (int axis : NO_AXES) {
            check.due("on(" + axis + ")", x.on(axis), -1);
        }
        check.due("at(0,2)", x.at(0, 2), true);
        check.due("at(1,-2)", x.at(1, -2), true);
        check.due("on(0)", x.on(0), 0);
        check.due("on(1)", x.on(1), 1);
        check.due("on(2)", x.on(2), -1);
        check.due("move(6,-6,6)", x.move(6, -6, 6), 4);
        check.due("on(0)", x.on(0), 0);
        check.due("tick(1)", x.tick(1), 1);
        check.due("on(0) at 2", x.on(0), 1);
        check.due("on(1) at -2", x.on(1), 1);
        check.due("tick(1)", x.tick(1), 1);
        check.due("on(1) at -5", x.on(1), 0);
        check.due("tick(2)", x.tick(2), 2);
        // What is missed does not come to the switch.
        check.due("load(1000,0)", x.load(1000, 0), true);
        check.due("move(-6,6,0)", x.move(-6, 6, 0), 4);
        check.due("tick(4)", x.tick(4), 4);
        duePlaces("missed", x, 0, 0, 6);
        check.due("on(0) missed", x.on(0), 1);
        check.due("on(1) missed", x.on(1), 0);
    }

    private static void promise17() {
        RampDriver x = fast();
        check.due("at(0,5)", x.at(0, 5), true);
        check.due("off: home(0)", x.home(0), 5);
        duePlaces("home", x, 0, 0, 0);
        dueTruePlaces("home", x, 5, 0, 0);
        check.due("just on: home(0)", x.home(0), 2);
        dueTruePlaces("home", x, 5, 0, 0);
        check.due("at(0,-3)", x.at(0, -3), true);
        check.due("on: home(0)", x.home(0), 10);
        dueTruePlaces("home", x, -3, 0, 0);
        check.due("at(1,2000)", x.at(1, 2000), true);
        check.due("home(1)", x.home(1), 2000);
        check.due("at(1,-2000)", x.at(1, -2000), true);
        check.due("home(1)", x.home(1), 4002);
        check.due("at(2,-1)", x.at(2, -1), true);
        check.due("home(2)", x.home(2), 3);
        dueTruePlaces("home", x, -3, -2000, -1);
        check.due("move(6,3,0)", x.move(6, 3, 0), 4);
        check.due("tick(4)", x.tick(4), 4);
        duePlaces("on from home", x, 6, 3, 0);
        dueTruePlaces("on from home", x, 3, -1997, -1);
        // What was missed is found again: the switch is where it was.
        check.due("load(1000,0)", x.load(1000, 0), true);
        check.due("move(8,0,0)", x.move(8, 0, 0), 4);
        check.due("tick(4)", x.tick(4), 4);
        duePlaces("missed", x, 14, 3, 0);
        dueState("ahead of home", x, 0, 0, -2, 8, 8, 4, 8, 0, 0);
        check.due("home(0)", x.home(0), 8);
        duePlaces("home", x, 0, 3, 0);
        dueTruePlaces("home", x, -3, -1997, -1);
        dueState("home is no MOVE", x, 0, 0, -2, 8, 8, 4, 8, 0, 0);
    }

    private static void promise17Refused() {
        RampDriver x = fast();
        for (int axis : NO_AXES) {
            check.due("home(" + axis + ")", x.home(axis), -1);
        }
        check.due("no SWITCH: home(0)", x.home(0), -1);
        check.due("at(1,9)", x.at(1, 9), true);
        check.due("no SWITCH: home(0)", x.home(0), -1);
        check.due("no SWITCH: home(2)", x.home(2), -1);
        check.due("move(6,6,6)", x.move(6, 6, 6), 4);
        check.due("a MOVE: home(1)", x.home(1), -1);
        check.due("tick(3)", x.tick(3), 3);
        check.due("a MOVE: home(1)", x.home(1), -1);
        duePlaces("a MOVE", x, 6, 6, 6);
        dueTruePlaces("a MOVE", x, 6, 6, 6);
        check.due("tick(1)", x.tick(1), 1);
        check.due("home(1)", x.home(1), 3);
        duePlaces("home", x, 6, 0, 6);
        dueTruePlaces("home", x, 6, 9, 6);
    }
}
