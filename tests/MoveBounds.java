/** Terms 2 and promises 10 to 17, a sentence at a time: bounds, refusals, and a MOVE at each of its ages. */
public final class MoveBounds {
    /** Speed 6, change 2, jerk 4: 6 is 2 3 1 0, 12 is 2 4 4 2 0, 20 begins by 2 4 6; from (4, 2) it is 2 0. */
    private static final String FAST = "limits(6,2,4)=true ";
    /** One step a TICK: n steps are n + 1 TICKS. */
    private static final String SLOW = "limits(1,1,1)=true ";

    /** From (2, 2) it stops faster by 6 8 8 6 2 0 than by 4 6 7 6 4 1 0, but with more steps. */
    private static final String BEYOND_RULES = Situations.BEYOND.substring(0, Situations.BEYOND.indexOf("move("));

    private static final Sentences s = new Sentences("MoveBounds");

    public static void main(String[] args) {
        axesAtFirst();
        moves();
        movesRefused();
        toTheNearest();
        missedSteps();
        ticks();
        ticksRefused();
        stops();
        stopsBeyond();
        stopsRefused();
        notTold();
        places();
        stateNumbers();
        stateOfLatest();
        stateOfMissed();
        stateOfStopped();
        switches();
        switchesOn();
        homes();
        homesRefused();
        farAway();
        s.end();
    }

    private static String places(int p0, int p1, int p2) {
        return "place(0,false)=" + p0 + " place(1,false)=" + p1 + " place(2,false)=" + p2 + " ";
    }

    private static String truePlaces(int p0, int p1, int p2) {
        return "place(0,true)=" + p0 + " place(1,true)=" + p1 + " place(2,true)=" + p2 + " ";
    }

    /** state(0) to state(8). */
    private static String states(int... answers) {
        StringBuilder script = new StringBuilder();
        for (int what = 0; what < answers.length; what++) {
            script.append("state(" + what + ")=" + answers[what] + " ");
        }
        return script.toString();
    }

    private static void axesAtFirst() {
        s.of("PLACES and TRUE PLACES (0 at first)");
        s.due(places(0, 0, 0) + truePlaces(0, 0, 0));
        s.of("AXES 0, 1, 2");
        s.due(FAST + "move(1,0,0)=2 tick(2)=2 move(0,2,0)=2 tick(2)=2 move(0,0,-3)=3 tick(3)=3 " + places(1, 2, -3) + truePlaces(1, 2, -3));
    }

    private static void moves() {
        s.of("A MOVE by d0, d1, d2 (-200 .. 200 each)");
        for (String call : new String[] {"move(#,0,0)", "move(0,#,0)", "move(0,0,#)"}) {
            s.bounds(SLOW, call, -200, "201", 200, "201", "-1");
        }
        s.due(SLOW + "move(-200,200,-200)=201 tick(1000)=201 " + places(-200, 200, -200) + "move(200,-200,199)=201 tick(201)=201 "
                + places(0, 0, -1));
        s.of("n is the greatest of them without sign");
        s.due(SLOW + "move(-5,3,4)=6 state(4)=5 tick(6)=6 move(3,-5,4)=6 state(4)=5 tick(6)=6 move(3,4,-5)=6 state(4)=5");
        s.due(SLOW + "move(5,3,-4)=6 state(4)=5 tick(6)=6 move(-3,5,4)=6 state(4)=5 tick(6)=6 move(4,-4,5)=6 state(4)=5");
        s.due(SLOW + "move(-4,-4,-4)=5 state(4)=4 tick(5)=5 " + places(-4, -4, -4));
        s.of("it goes by the RAMP of n");
        s.due(FAST + "move(-12,1,1)=5 tick(1)=1 state(1)=2 tick(1)=1 state(1)=4 tick(1)=1 state(1)=4 tick(1)=1 state(1)=2 tick(1)=1 "
                + "state(1)=0 state(0)=0");
        s.of("10: A MOVE starts: its TICKS");
        s.due(FAST + "move(3,-6,0)=4 " + states(1, 0, 0, 0, 6, 0, 0, -1, 0) + places(0, 0, 0));
        s.of("10: (with 0 it is over at once)");
        s.due(FAST + "move(0,0,0)=0 " + states(0, 0, 0, 0, 0, 0, 0, -1, 0) + "tick(0)=-1 tick(1)=-1 stop()=-1 move(0,0,0)=0 "
                + "limits(5,2,4)=true home(0)=-1 move(1,0,0)=2");
        s.due(FAST + "move(12,0,0)=5 tick(9)=5 move(0,0,0)=0 " + states(0, 0, 0, 0, 0, 0, 0, -1, 0) + places(12, 0, 0));
    }

    private static void movesRefused() {
        s.of("10: NONE: out of bounds");
        s.due(FAST + "move(201,6,6)=-1 move(6,-201,6)=-1 move(6,6,201)=-1 move(MIN,0,0)=-1 move(0,MIN,0)=-1 move(0,0,MIN)=-1 "
                + "move(MIN,MIN,MIN)=-1 move(MAX,MAX,MAX)=-1 state(4)=0 state(0)=0 move(6,6,6)=4");
        s.of("10: NONE: no RAMP");
        s.due("move(1,0,0)=-1 move(0,-1,1)=-1 state(0)=0 state(4)=0 tick(1)=-1 move(2,1,1)=3");
        s.due(FAST + "move(12,0,0)=5 tick(9)=5 load(101,0)=true only(true)=true move(6,0,0)=-1 " + states(0, 0, -2, 12, 12, 5, 0, -1, 0)
                + "move(0,0,0)=0");
        s.refused(Situations.ALL.get(0), "move(1,-1,0)", "-1", true);
        s.refused(Situations.ALL.get(2), "move(0,0,1)", "-1", true);
        s.of("10: NONE: one goes on");
        s.refusedInMove("move(20,0,0)", "-1");
        s.refusedInMove("move(0,0,0)", "-1");
        s.due(FAST + "move(6,6,6)=4 move(1,1,1)=-1 tick(3)=3 move(1,1,1)=-1 tick(1)=1 " + places(6, 6, 6) + "move(1,1,1)=2");
        s.due(FAST + "move(20,0,0)=7 tick(2)=2 stop()=2 move(1,1,1)=-1 tick(1)=1 move(1,1,1)=-1 tick(1)=1 move(1,1,1)=2");
    }

    private static void toTheNearest() {
        s.of("m times its d by n, to the nearest");
        // 3 by 7 is 0.43 0.86 1.29 1.71 2.14 2.57 3; 6 by 7 is 0.86 1.71 2.57 3.43 4.29 5.14 6.
        StringBuilder script = new StringBuilder(SLOW + "move(3,-3,-6)=7 tick(7)=7 move(7,0,0)=8 tick(8)=8 ");
        script.append("move(7,3,-6)=8 ");
        int[] three = {0, 1, 1, 2, 2, 3, 3};
        int[] six = {1, 2, 3, 3, 4, 5, 6};
        for (int m = 1; m <= 7; m++) {
            script.append("tick(1)=1 " + places(10 + m, -3 + three[m - 1], -6 - six[m - 1]));
        }
        s.due(script.toString());
        s.of("of two that are alike near the one farther from 0");
        s.due(SLOW + "move(2,1,-1)=3 tick(1)=1 " + places(1, 1, -1) + "tick(2)=2 " + places(2, 1, -1));
        // 3 by 6 and -5 by 6: 0.5 1 1.5 2 2.5 3, and 0.83 1.67 2.5 3.33 4.17 5.
        int[] half = {1, 1, 2, 2, 3, 3};
        int[] five = {1, 2, 3, 3, 4, 5};
        StringBuilder halves = new StringBuilder(SLOW + "move(6,3,-5)=7 ");
        for (int m = 1; m <= 6; m++) {
            halves.append("tick(1)=1 " + places(m, half[m - 1], -five[m - 1]) + truePlaces(m, half[m - 1], -five[m - 1]));
        }
        s.due(halves + "tick(1)=1 " + places(6, 3, -5));
        s.of("of two that are alike near: by what has been gone, not by the PLACE");
        s.due(SLOW + "move(2,1,-1)=3 tick(3)=3 move(-2,-1,1)=3 tick(1)=1 " + places(1, 0, 0) + "tick(2)=2 " + places(0, 0, 0));
        s.due(SLOW + "move(3,-3,3)=4 tick(4)=4 move(4,2,-2)=5 tick(1)=1 " + places(4, -2, 2) + "tick(1)=1 " + places(5, -2, 2) + "tick(1)=1 "
                + places(6, -1, 1) + "tick(2)=2 " + places(7, -1, 1));
    }

    private static void missedSteps() {
        s.of("In a TICK that is not SAFE all steps are MISSED: TRUE PLACES do not change; PLACES go on as ever");
        // 2 4 4 2 0: the TICKS at 4 are not SAFE.
        s.due(FAST + "pull(4,99)=true load(100,0)=true move(12,-7,1)=5 tick(1)=1 " + places(2, -1, 0) + truePlaces(2, -1, 0) + "tick(1)=1 "
                + places(6, -4, 1) + truePlaces(2, -1, 0) + "tick(1)=1 " + places(10, -6, 1) + truePlaces(2, -1, 0) + "tick(1)=1 "
                + places(12, -7, 1) + truePlaces(4, -2, 0) + "tick(1)=1 " + places(12, -7, 1) + truePlaces(4, -2, 0));
        s.of("MISSED: only where it is not SAFE");
        s.due(FAST + "load(100,0)=true move(12,-7,1)=5 tick(5)=5 " + truePlaces(12, -7, 1) + "load(101,0)=true move(12,-7,1)=5 tick(5)=5 "
                + places(24, -14, 2) + truePlaces(12, -7, 1) + "load(0,50)=true move(6,6,6)=4 tick(4)=4 " + truePlaces(18, -1, 7)
                + "load(0,51)=true move(6,6,6)=4 tick(4)=4 " + truePlaces(21, 2, 10));
    }

    private static void ticks() {
        s.of("11: k TICKS (0 .. 1,000) go by");
        s.bounds(FAST + "move(12,0,0)=5", "tick(#)", 0, "0", 1000, "5", "-1");
        s.due(FAST + "move(8,0,0)=4 tick(0)=0 state(5)=0 state(0)=1 tick(1)=1 state(5)=1 tick(2)=2 state(5)=3 state(0)=1 tick(1)=1 state(5)=4 "
                + "state(0)=0");
        s.of("11: fewer if the MOVE is over: how many");
        s.due(FAST + "move(8,0,0)=4 tick(3)=3 tick(2)=1 tick(1)=-1");
        s.due(FAST + "move(8,0,0)=4 tick(4)=4 move(8,0,0)=4 tick(5)=4 move(20,0,0)=7 tick(2)=2 stop()=2 tick(3)=2");
        s.due("limits(1,1,2)=true bad(1,true)=true move(200,0,0)=400 tick(399)=399 state(0)=1 tick(1000)=1 state(0)=0 place(0,true)=200");
    }

    private static void ticksRefused() {
        s.of("11: NONE: k");
        s.due(FAST + "move(8,0,0)=4 tick(-1)=-1 tick(1001)=-1 tick(MIN)=-1 tick(MAX)=-1 state(5)=0 tick(2)=2 tick(-1)=-1 tick(1001)=-1 state(5)=2");
        s.of("11: NONE: no MOVE");
        s.refusedOutOfMove("tick(1)", "-1");
        s.refusedOutOfMove("tick(0)", "-1");
        s.refusedOutOfMove("tick(1000)", "-1");
    }

    private static void stops() {
        s.of("STOP in a MOVE: from the STATE at hand it goes by SLOWING");
        s.due(FAST + "move(20,-10,5)=7 tick(2)=2 slowing(4,2,0)=2 stop()=2 " + states(1, 4, 2, 6, 20, 2, 0, -1, 1) + "tick(1)=1 "
                + states(1, 2, -2, 8, 20, 3, 0, -1, 1) + places(8, -4, 2) + "tick(1)=1 " + states(0, 0, -2, 8, 20, 4, 0, -1, 1) + places(8, -4, 2));
        s.of("STOP: the AXES by the same rule");
        s.due(SLOW + "move(3,-3,2)=4 tick(1)=1 stop()=2 tick(9)=2 state(3)=2 " + places(2, -2, 1));
        s.of("12: (0: the MOVE is over): ahead of the first TICK");
        s.due(FAST + "move(20,0,0)=7 stop()=0 " + states(0, 0, 0, 0, 20, 0, 0, -1, 1) + "tick(0)=-1 stop()=-1 limits(5,2,4)=true move(1,0,0)=2");
        s.of("12: (0: the MOVE is over): where it stands in its midst");
        s.due("limits(2,1,2)=true bad(1,true)=true move(2,0,0)=4 tick(2)=2 stop()=0 " + states(0, 0, -1, 1, 2, 2, 0, -1, 1) + places(1, 0, 0)
                + "tick(1)=-1 stop()=-1 bad(1,false)=true");
        s.of("STOP by SAFE TICKS alone, if ONLY SAFE ones are wanted");
        // Without speed 2 12 is 1 3 4 3 1 0; the SLOWING from (4, 1) is 3 1 0 then, and 2 0 else.
        String threeOne = FAST + "load(1,0)=true pull(2,0)=true ";
        s.due(threeOne + "only(true)=true move(12,0,0)=6 tick(3)=3 stop()=3 tick(9)=3 " + states(0, 0, -1, 12, 12, 6, 0, -1, 1) + truePlaces(12, 0, 0));
        s.due(threeOne + "move(12,0,0)=5 tick(2)=2 stop()=2 tick(9)=2 " + states(0, 0, -2, 8, 12, 4, 4, 0, 1) + truePlaces(4, 0, 0));
    }

    private static void stopsBeyond() {
        s.of("STOP: (m may go beyond n, the AXES by the same rule)");
        // 30 is 2 4 6 7 6 4 1 0; from (2, 2) 4 6 7 6 4 1 0 is 28 steps in 7 TICKS, 6 8 8 6 2 0 is 30 in 6.
        s.due(Situations.BEYOND + "state(3)=2 tick(4)=4 state(3)=30 state(0)=1 " + places(30, -15, 8) + "tick(1)=1 " + states(1, 2, -4, 32, 30, 6, 0, -1, 1)
                + places(32, -16, 9) + truePlaces(32, -16, 9) + "tick(1)=1 " + states(0, 0, -2, 32, 30, 7, 0, -1, 1) + places(32, -16, 9)
                + truePlaces(32, -16, 9));
        s.due(BEYOND_RULES + "move(-31,31,3)=8 tick(1)=1 stop()=6 tick(9)=6 state(3)=32 " + places(-32, 32, 3) + "tick(1)=-1");
        s.due(BEYOND_RULES + "move(4,30,-1)=8 tick(1)=1 stop()=6 tick(6)=6 " + places(4, 32, -1) + "move(30,0,0)=8 tick(8)=8 " + places(34, 32, -1));
        // 84 of 72: 3 and -39 have gone 3.5 and -45.5, of two that are alike near the one farther from 0.
        s.due("limits(12,4,1)=true load(1,1)=true pull(5,2)=true pull(8,1)=true bad(4,true)=true bad(5,true)=true bad(6,true)=true "
                + "bad(7,true)=true only(true)=true move(72,3,-39)=14 tick(2)=2 stop()=11 tick(9)=9 state(3)=83 " + places(83, 3, -45)
                + "tick(9)=2 state(3)=84 " + places(84, 4, -46) + truePlaces(84, 4, -46));
        s.of("STOP beyond n: it is stopped, and may not be told till it is over");
        s.due(Situations.BEYOND + "tick(5)=5 state(0)=1 stop()=-1 load(0,0)=false move(0,0,0)=-1 tick(1)=1 state(0)=0 load(0,0)=true");
    }

    private static void stopsRefused() {
        s.of("12: NONE: no MOVE");
        s.refusedOutOfMove("stop()", "-1");
        s.of("12: NONE: it was stopped");
        for (Situations.Situation one : Situations.ALL) {
            if (one.inMove() && one.calls().contains("stop()")) {
                s.refused(one, "stop()", "-1", true);
            }
        }
        s.due(FAST + "move(20,0,0)=7 tick(2)=2 stop()=2 stop()=-1 tick(1)=1 stop()=-1 tick(1)=1 stop()=-1 move(20,0,0)=7 tick(2)=2 stop()=2");
    }

    private static void notTold() {
        s.of("What LIMITS, BAD, PULL, LOAD, MASS, ONLY SAFE are is not told while a MOVE goes on");
        String all = "limits(5,1,1)=# bad(3,true)=# pull(2,50)=# load(60,1)=# only(true)=# ";
        String no = all.replace("#", "false");
        String yes = all.replace("#", "true");
        s.due(FAST + "move(6,0,0)=4 " + no + "tick(3)=3 " + no + "tick(1)=1 state(6)=0 ramp(6)=4 " + yes);
        s.due(FAST + "move(20,0,0)=7 tick(2)=2 stop()=2 " + no + "tick(1)=1 " + no + "tick(1)=1 state(6)=0 " + yes);
        s.due(FAST + "move(20,0,0)=7 stop()=0 " + yes);
        s.due(FAST + "move(0,0,0)=0 " + yes);
        s.of("What is not named there is told in a MOVE too");
        s.due(FAST + "move(6,0,0)=4 at(0,3)=true on(0)=0 tick(2)=2 on(0)=1 at(0,6)=true on(0)=0 table(2,9)=true set(1,3)=true smooth()=9 "
                + "ramp(6)=4 speed(6,0)=2 slowing(6,0,0)=3 miss(1)=9 current(0,0)=9 tick(9)=2 on(0)=1");
    }

    private static void places() {
        s.of("13: NoSuchElementException: no such AXIS");
        s.bounds(FAST + "move(6,-3,2)=4 tick(9)=4", "place(#,false)", 0, "6", 2, "2", "throws");
        s.bounds(FAST + "move(6,-3,2)=4 tick(9)=4", "place(#,true)", 0, "6", 2, "2", "throws");
        s.of("13: PLACE of an AXIS, or the TRUE one");
        s.due(FAST + "load(101,0)=true move(6,-3,2)=4 tick(9)=4 " + places(6, -3, 2) + truePlaces(0, 0, 0));
    }

    private static void stateNumbers() {
        s.of("14: NONE for others");
        s.bounds(FAST + "move(20,0,0)=7 tick(2)=2 stop()=2", "state(#)", 0, "1", 8, "1", "-1");
        s.of("14: all but 7 are 0 ahead of the first one");
        s.due(states(0, 0, 0, 0, 0, 0, 0, -1, 0));
        s.due(FAST + "at(0,5)=true home(0)=5 tick(1)=-1 stop()=-1 move(201,0,0)=-1 " + states(0, 0, 0, 0, 0, 0, 0, -1, 0));
        s.of("14: 0 whether a MOVE goes on");
        s.due(FAST + "state(0)=0 move(6,0,0)=4 state(0)=1 tick(0)=0 state(0)=1 tick(3)=3 state(0)=1 state(3)=6 tick(1)=1 state(0)=0 move(20,0,0)=7 "
                + "tick(2)=2 stop()=2 state(0)=1 tick(1)=1 state(0)=1 tick(1)=1 state(0)=0 move(20,0,0)=7 stop()=0 state(0)=0");
    }

    private static void stateOfLatest() {
        s.of("14: 1 its speed, 2 its change (both of the latest TICK; 0 ahead of it)");
        s.due(FAST + "move(6,0,0)=4 state(1)=0 state(2)=0 tick(0)=0 state(1)=0 state(2)=0 tick(1)=1 state(1)=2 state(2)=2 tick(1)=1 state(1)=3 "
                + "state(2)=1 tick(1)=1 state(1)=1 state(2)=-2 tick(1)=1 state(1)=0 state(2)=-1 move(201,0,0)=-1 state(1)=0 state(2)=-1 "
                + "move(6,0,0)=4 state(1)=0 state(2)=0");
        s.of("14: 3 m");
        s.due(FAST + "move(6,1,1)=4 state(3)=0 tick(1)=1 state(3)=2 tick(1)=1 state(3)=5 tick(1)=1 state(3)=6 tick(1)=1 state(3)=6 move(2,0,0)=2 state(3)=0");
        s.of("14: 4 n (both of the latest MOVE)");
        s.due(FAST + "state(4)=0 move(6,-6,1)=4 state(4)=6 tick(4)=4 state(4)=6 state(3)=6 move(0,0,0)=0 state(4)=0 state(3)=0 move(0,0,-9)=5 state(4)=9 "
                + "stop()=0 state(4)=9 state(3)=0");
        s.of("14: 5 its TICKS so far");
        s.due(FAST + "move(6,0,0)=4 state(5)=0 tick(1)=1 state(5)=1 tick(9)=3 state(5)=4 move(20,0,0)=7 state(5)=0 tick(2)=2 stop()=2 state(5)=2 "
                + "tick(9)=2 state(5)=4");
    }

    private static void stateOfMissed() {
        s.of("14: 6 how many of its steps (by m) were MISSED");
        s.due(FAST + "pull(3,99)=true load(100,0)=true move(6,1,0)=4 state(6)=0 tick(1)=1 state(6)=0 tick(1)=1 state(6)=3 tick(1)=1 state(6)=3 tick(1)=1 "
                + "state(6)=3 move(6,-6,6)=4 state(6)=0 tick(4)=4 state(6)=3");
        s.due(FAST + "load(101,0)=true move(6,0,0)=4 tick(4)=4 state(6)=6 move(20,0,0)=7 tick(2)=2 state(6)=6 stop()=2 tick(1)=1 state(6)=8");
        s.of("14: 7 the first TICK (from 0 on) with a step that was MISSED (NONE)");
        s.due(FAST + "pull(3,99)=true load(100,0)=true move(6,0,0)=4 state(7)=-1 tick(1)=1 state(7)=-1 tick(1)=1 state(7)=1 tick(2)=2 state(7)=1 "
                + "move(2,0,0)=2 state(7)=-1 tick(2)=2 state(7)=-1 pull(3,100)=true pull(2,99)=true move(2,0,0)=2 tick(1)=1 state(7)=0 tick(1)=1 state(7)=0");
        s.due(FAST + "pull(1,99)=true load(100,0)=true move(6,0,0)=4 tick(2)=2 state(7)=-1 tick(1)=1 state(7)=2 state(6)=1");
        s.of("14: 7: a TICK that makes no step has none that was MISSED");
        s.due(FAST + "pull(0,99)=true load(100,0)=true move(6,0,0)=4 tick(4)=4 state(6)=0 state(7)=-1 " + truePlaces(6, 0, 0));
    }

    private static void stateOfStopped() {
        s.of("14: 8 whether it was stopped");
        s.due(FAST + "state(8)=0 stop()=-1 state(8)=0 move(20,0,0)=7 state(8)=0 tick(2)=2 state(8)=0 stop()=2 state(8)=1 tick(1)=1 state(8)=1 tick(1)=1 "
                + "state(8)=1 stop()=-1 state(8)=1 move(6,0,0)=4 state(8)=0 tick(4)=4 stop()=-1 state(8)=0 move(6,0,0)=4 stop()=0 state(8)=1 move(0,0,0)=0 state(8)=0");
    }

    private static void switches() {
        s.of("s (-2,000 .. 2,000)");
        s.bounds("", "at(0,#)", -2000, "true", 2000, "true", "false");
        s.bounds("at(1,5)=true", "at(1,#)", -2000, "true", 2000, "true", "false");
        s.of("15: False: out of bounds (AXIS)");
        s.bounds("", "at(#,7)", 0, "true", 2, "true", "false");
        s.due("at(3,0)=false at(-1,0)=false at(MIN,0)=false at(MAX,MAX)=false on(0)=-1 on(1)=-1 on(2)=-1");
        s.of("(there is none at first)");
        s.due("on(0)=-1 on(1)=-1 on(2)=-1 home(0)=-1 home(1)=-1 home(2)=-1");
        s.of("15: The SWITCH of an AXIS is at s: of that one alone, and told again");
        s.due("at(1,1)=true on(0)=-1 on(1)=0 on(2)=-1 at(1,0)=true on(1)=1 at(1,0)=true on(1)=1 at(0,-5)=true at(2,5)=true on(0)=1 on(1)=1 on(2)=0");
    }

    private static void switchesOn() {
        s.of("on where its TRUE PLACE is at least s");
        s.due("at(0,0)=true on(0)=1 at(0,1)=true on(0)=0 at(0,-1)=true on(0)=1 at(0,2000)=true on(0)=0 at(0,-2000)=true on(0)=1");
        s.due(FAST + "at(0,2)=true at(1,-2)=true move(6,-6,6)=4 on(0)=0 on(1)=1 tick(1)=1 on(0)=1 on(1)=1 tick(1)=1 on(0)=1 on(1)=0");
        s.of("its TRUE PLACE, not its PLACE");
        s.due(FAST + "at(0,6)=true load(101,0)=true move(6,0,0)=4 tick(4)=4 place(0,false)=6 on(0)=0 load(0,0)=true move(6,0,0)=4 tick(4)=4 on(0)=1");
        s.due(FAST + "at(0,6)=true home(0)=6 place(0,false)=0 on(0)=1");
        s.of("16: NONE: no such AXIS");
        s.bounds("at(0,0)=true at(1,0)=true at(2,1)=true", "on(#)", 0, "1", 2, "0", "-1");
        s.of("16: NONE: none");
        s.due("on(0)=-1 at(1,2)=true on(0)=-1 on(1)=0 on(2)=-1 at(2,2001)=false on(2)=-1");
    }

    private static void homes() {
        s.of("HOME: if it is off, up till it is on");
        s.due("at(0,1)=true home(0)=1 place(0,true)=1 place(0,false)=0 on(0)=1");
        s.due("at(2,2000)=true home(2)=2000 " + places(0, 0, 0) + truePlaces(0, 0, 2000) + "on(2)=1");
        s.of("HOME: if it is on at first, down till it is off, then one up");
        s.due("at(0,0)=true home(0)=2 place(0,true)=0 place(0,false)=0 home(0)=2 on(0)=1");
        s.due("at(1,-2000)=true home(1)=2002 " + truePlaces(0, -2000, 0) + "at(1,2000)=true home(1)=4000 at(1,-2000)=true home(1)=4002 at(1,-1999)=true home(1)=1");
        s.of("HOME: Then its PLACE is 0");
        s.due(FAST + "at(0,4)=true move(6,6,6)=4 tick(4)=4 home(0)=4 " + places(0, 6, 6) + truePlaces(4, 6, 6) + "move(6,-6,3)=4 tick(4)=4 " + places(6, 0, 9)
                + truePlaces(10, 0, 9));
        s.of("a switch found from both sides at one place");
        s.due(FAST + "at(0,4)=true home(0)=4 load(101,0)=true move(9,0,0)=5 tick(9)=5 " + places(9, 0, 0) + truePlaces(4, 0, 0) + "home(0)=2 " + places(0, 0, 0)
                + truePlaces(4, 0, 0) + "load(0,0)=true move(9,0,0)=5 tick(9)=5 home(0)=11 " + truePlaces(4, 0, 0) + "move(-9,0,0)=5 tick(9)=5 home(0)=9 "
                + truePlaces(4, 0, 0) + places(0, 0, 0));
    }

    private static void homesRefused() {
        s.of("17: NONE: no such AXIS");
        s.bounds("at(0,3)=true at(1,3)=true at(2,4)=true", "home(#)", 0, "3", 2, "4", "-1");
        s.of("17: NONE: no SWITCH");
        s.due("home(0)=-1 at(0,3)=true home(1)=-1 home(2)=-1 at(1,2001)=false home(1)=-1 home(0)=3");
        s.refused(Situations.ALL.get(0), "home(1)", "-1", true);
        s.refused(Situations.ALL.get(2), "home(0)", "-1", true);
        s.of("17: NONE: a MOVE");
        for (Situations.Situation one : Situations.ALL) {
            if (one.inMove()) {
                for (int axis = 0; axis < 3; axis++) {
                    s.refused(one, "home(" + axis + ")", "-1", true);
                }
            }
        }
        s.due(FAST + "at(0,3)=true move(6,0,0)=4 home(0)=-1 tick(3)=3 home(0)=-1 tick(1)=1 home(0)=5 move(20,0,0)=7 tick(2)=2 stop()=2 home(0)=-1 tick(2)=2 "
                + "home(0)=10 move(6,0,0)=4 stop()=0 home(0)=2");
    }

    /** As far as 512 calls lead. */
    private static void farAway() {
        s.of("PLACES (whole numbers)");
        StringBuilder script = new StringBuilder("limits(12,4,4)=true at(1,2000)=true ");
        for (int i = 0; i < 252; i++) {
            script.append("move(200,-200,199)=20 tick(20)=20 ");
        }
        s.due(script + "place(0,true)=50400 place(1,false)=-50400 place(2,true)=50148 home(1)=52400 place(1,true)=2000 on(1)=1");
    }
}
