/** Terms 1 and promises 1 to 9, a sentence at a time: its bounds, what it refuses, where rules meet. */
public final class RampBounds {
    /** Speed 6, change 2, jerk 4: the RAMP of 6 is 2 3 1 0, the one of 12 is 2 4 4 2 0. */
    private static final String FAST = "limits(6,2,4)=true ";

    private static final Sentences s = new Sentences("RampBounds");

    public static void main(String[] args) {
        newObject();
        speedLimit();
        changeLimit();
        jerkLimit();
        badSpeeds();
        pulls();
        loadAndMass();
        onlySafe();
        states();
        ticks();
        bothWithinBounds();
        badTicks();
        safeTicks();
        rest();
        rampOfSteps();
        rampsAsFewAsCanBe();
        rampsOfSafeOnes();
        rampsThatAreNot();
        slowings();
        slowingsAlike();
        slowingsOfSafeOnes();
        speedOfRamps();
        slowingAnswers();
        tellings();
        calls512();
        s.end();
    }

    /** The call for each speed from the first to the last one, with the same answer. */
    private static String forEach(String call, int first, int last, String answer) {
        StringBuilder script = new StringBuilder();
        for (int v = first; v <= last; v++) {
            script.append(call.replace("#", Integer.toString(v))).append('=').append(answer).append(' ');
        }
        return script.toString();
    }

    private static void newObject() {
        s.of("NONE = -1: None; refused");
        s.due("ramp(1)=" + RampDriver.NONE);
        s.due("ramp(-1)=-1 on(0)=-1 state(7)=-1");
        s.of("1: All as told");
        s.due(forEach("state(#)", 0, 6, "0") + "state(7)=-1 state(8)=0 tick(0)=-1 stop()=-1");
        s.due(forEach("place(#,false)", 0, 2, "0") + forEach("place(#,true)", 0, 2, "0") + forEach("on(#)", 0, 2, "-1"));
        s.due("ramp(0)=0 ramp(1)=-1 ramp(2)=3 speed(2,0)=1 speed(2,1)=1 speed(2,2)=0 evenness()=50");
    }

    private static void speedLimit() {
        s.of("SPEED V (1 .. 12 steps a tick; 6 at first)");
        s.due("slowing(6,0,0)=4 slowing(7,0,0)=-1");
        s.due("limits(1,2,4)=true slowing(1,0,0)=1 slowing(2,0,0)=-1");
        s.due("limits(12,2,4)=true slowing(12,0,0)=6 slowing(13,0,0)=-1");
        s.of("2: False: out of bounds (speed)");
        s.bounds("", "limits(#,2,4)", 1, "true", 12, "true", "false");
        s.of("2: False: a MOVE");
        s.refusedInMove("limits(5,1,1)", "false");
        s.refusedInMove("limits(6,2,4)", "false");
    }

    private static void changeLimit() {
        s.of("CHANGE A (1 .. 4; 2)");
        s.due("slowing(0,2,0)=3 slowing(0,3,0)=-1 slowing(1,-2,0)=1 slowing(1,-3,0)=-1");
        s.due("limits(6,1,4)=true slowing(4,0,0)=4 slowing(0,1,0)=0 slowing(0,2,0)=-1 slowing(0,-1,0)=0 slowing(0,-2,0)=-1");
        s.due("limits(6,4,4)=true slowing(4,0,0)=1 slowing(0,4,0)=0 slowing(0,5,0)=-1 slowing(0,-4,0)=0 slowing(0,-5,0)=-1");
        s.of("2: False: out of bounds (change)");
        s.bounds("", "limits(6,#,4)", 1, "true", 4, "true", "false");
    }

    private static void jerkLimit() {
        s.of("JERK J (1 .. 4; 1)");
        s.due("slowing(0,1,0)=0 slowing(0,2,0)=3");
        s.due("limits(6,4,1)=true slowing(3,0,0)=3 slowing(0,1,0)=0 slowing(0,2,0)=3");
        s.due("limits(6,4,4)=true slowing(4,0,0)=1 slowing(0,4,0)=0");
        s.of("2: False: out of bounds (jerk)");
        s.bounds("", "limits(6,4,#)", 1, "true", 4, "true", "false");
    }

    private static void badSpeeds() {
        s.of("Speeds 1 .. 12 may be BAD");
        s.due("bad(1,true)=true ramp(2)=-1 bad(1,false)=true ramp(2)=3");
        // From (12, 4) it must keep 12 for a TICK: 12 8 4 0.
        s.due("limits(12,4,4)=true slowing(12,4,0)=4 bad(12,true)=true slowing(12,4,0)=-1 bad(12,false)=true slowing(12,4,0)=4");
        s.of("(none at first)");
        s.due(forEach("bad(#,false)", 1, 12, "false") + forEach("bad(#,true)", 1, 12, "true"));
        s.of("3: False: no such one");
        s.bounds("", "bad(#,true)", 1, "true", 12, "true", "false");
        s.bounds(forEach("bad(#,true)", 1, 12, "true"), "bad(#,false)", 1, "true", 12, "true", "false");
        s.of("3: False: it is so");
        for (int v = 1; v <= 12; v++) {
            s.due(("bad(#,false)=false bad(#,true)=true bad(#,true)=false bad(#,false)=true bad(#,false)=false "
                    + "bad(#,true)=true").replace("#", Integer.toString(v)));
        }
        s.refusedAnywhere("bad(9,false)", "false", true);
        s.due("bad(2,true)=true bad(2,true)=false ramp(6)=7 bad(2,false)=true bad(2,false)=false ramp(6)=5");
        s.of("3: False: a MOVE");
        s.refusedInMove("bad(9,true)", "false");
        s.due("bad(2,true)=true move(2,0,0)=3 bad(2,false)=false ramp(6)=7 tick(2)=2 bad(2,false)=false tick(1)=1 "
                + "bad(2,false)=true ramp(6)=5");
    }

    private static void pulls() {
        s.of("PULL of each speed 0 .. 12");
        // 2 3 1 0 by 2 1 -2 -1: a speed whose PULL is too low has its steps missed.
        s.due(FAST + "load(5,0)=true pull(3,4)=true move(6,0,0)=4 tick(4)=4 state(6)=3 pull(3,5)=true move(6,0,0)=4 tick(4)=4 state(6)=0");
        s.due("limits(12,4,4)=true load(5,0)=true pull(12,4)=true move(48,0,0)=7 tick(7)=7 state(6)=24 "
                + "pull(12,5)=true move(48,0,0)=7 tick(7)=7 state(6)=0");
        s.due("only(true)=true load(5,0)=true pull(0,4)=true ramp(2)=-1 pull(0,5)=true ramp(2)=3");
        s.of("4: False: out of bounds (speed)");
        s.bounds("", "pull(#,5)", 0, "true", 12, "true", "false");
        s.of("(0 .. 1,000)");
        s.due("only(true)=true load(1,0)=true pull(1,0)=true ramp(2)=-1 load(0,0)=true ramp(2)=3");
        s.due("only(true)=true load(1000,0)=true pull(0,1000)=true pull(1,1000)=true ramp(2)=3 pull(1,999)=true ramp(2)=-1");
        s.of("4: False: out of bounds (PULL)");
        s.bounds("", "pull(1,#)", 0, "true", 1000, "true", "false");
        s.bounds("", "pull(0,#)", 0, "true", 1000, "true", "false");
        s.of("(100 at first)");
        s.due("limits(12,1,1)=true load(100,0)=true move(200,0,0)=29 tick(1000)=29 state(6)=0 "
                + "load(101,0)=true move(200,0,0)=29 tick(1000)=29 state(6)=200");
        s.due(forEach("pull(#,1000)", 1, 12, "true") + "only(true)=true load(100,0)=true ramp(2)=3 load(101,0)=true ramp(2)=-1");
        s.of("4: What is so may be told again");
        s.due("pull(1,100)=true pull(1,100)=true pull(1,0)=true pull(1,0)=true");
        s.of("4: False: a MOVE");
        s.refusedInMove("pull(4,31)", "false");
        s.refusedInMove("pull(0,1000)", "false");
    }

    private static void loadAndMass() {
        String noPull = "only(true)=true " + forEach("pull(#,0)", 0, 12, "true");
        s.of("LOAD (0 .. 1,000; 0)");
        s.due(noPull + "ramp(6)=5 load(1,0)=true ramp(6)=-1 load(0,0)=true ramp(6)=5");
        s.due("only(true)=true pull(0,1000)=true pull(1,1000)=true load(1000,0)=true ramp(2)=3 load(1000,1)=true ramp(2)=-1");
        s.of("5: False: out of bounds (LOAD)");
        s.bounds("", "load(#,0)", 0, "true", 1000, "true", "false");
        s.of("MASS (0 .. 100; 0)");
        s.due(noPull + "ramp(6)=5 load(0,1)=true ramp(6)=-1 load(0,0)=true ramp(6)=5");
        s.due("only(true)=true load(0,100)=true ramp(2)=3 pull(1,99)=true ramp(2)=-1 load(0,99)=true ramp(2)=3");
        s.of("5: False: out of bounds (MASS)");
        s.bounds("", "load(0,#)", 0, "true", 100, "true", "false");
        s.of("5: What is so may be told again");
        s.due("load(0,0)=true load(7,7)=true load(7,7)=true");
        s.of("5: False: a MOVE");
        s.refusedInMove("load(90,3)", "false");
        s.refusedInMove("load(0,0)", "false");
    }

    private static void onlySafe() {
        s.of("(they are not at first)");
        s.due("load(101,0)=true ramp(2)=3 only(true)=true ramp(2)=-1");
        s.of("6: False: it is so");
        s.due("only(false)=false load(101,0)=true ramp(2)=3 only(true)=true only(true)=false ramp(2)=-1 only(false)=true "
                + "only(false)=false ramp(2)=3");
        s.refused(Situations.ALL.get(0), "only(false)", "false", true);
        s.refused(Situations.ALL.get(1), "only(true)", "false", true);
        s.of("6: False: a MOVE");
        for (Situations.Situation one : Situations.ALL) {
            if (one.inMove()) {
                s.refused(one, "only(true)", "false", true);
                s.refused(one, "only(false)", "false", true);
            } else {
                boolean is = one.calls().contains("only(true)");
                s.due(one.calls() + " only(" + is + ")=false only(" + !is + ")=true only(" + !is + ")=false");
            }
        }
    }

    private static void states() {
        s.of("A STATE is a speed v (0 .. V)");
        s.boundsThere("limits(5,3,2)=true", "slowing(#,0,0)", 0, "0", 5, "3", "-1");
        s.due("limits(12,4,4)=true slowing(12,0,0)=3 slowing(13,0,0)=-1 limits(1,4,4)=true slowing(1,0,0)=1 slowing(2,0,0)=-1");
        s.of("and a change a (-A .. A)");
        s.boundsThere("limits(5,3,2)=true", "slowing(4,#,0)", -3, "2", 3, "4", "-1");
        s.due("limits(5,4,2)=true slowing(4,-4,0)=2 slowing(4,-5,0)=-1 limits(5,1,2)=true slowing(4,-1,0)=4 slowing(4,-2,0)=-1");
    }

    private static void ticks() {
        s.of("A TICK, if b is at most J from a: greater");
        // From (10, 4) with a jerk of 1 it would go on to 13.
        s.due("limits(12,4,1)=true speed(200,0)=1 speed(200,1)=3 speed(200,2)=6 speed(200,3)=9");
        s.due("limits(12,4,2)=true speed(200,0)=2 speed(200,1)=6 speed(200,2)=10");
        s.due("limits(12,4,3)=true speed(200,0)=3 speed(200,1)=7 limits(12,4,4)=true speed(200,0)=4 speed(200,1)=8");
        s.of("A TICK, if b is at most J from a: less");
        // From (3, 0) 0 is a change of -3; from (4, 1) 1 is one of -3, and 4 from it is all that there may be.
        s.due("limits(6,4,1)=true slowing(3,0,0)=3 slowing(3,0,2)=-1 slowing(6,0,0)=4");
        s.due("limits(6,4,2)=true slowing(3,0,0)=2 slowing(3,0,1)=1 slowing(3,0,2)=-2");
        s.due("limits(6,4,3)=true slowing(3,0,0)=1 slowing(3,0,2)=-3 slowing(4,0,0)=2");
        s.due("limits(6,4,4)=true slowing(4,0,0)=1 slowing(4,0,2)=-4 slowing(4,1,0)=2 slowing(4,1,2)=-3");
    }

    private static void bothWithinBounds() {
        s.of("both are within their bounds: w at most V");
        s.due("limits(3,4,4)=true ramp(12)=5 speed(12,0)=3 speed(12,1)=3 speed(12,3)=3 speed(12,4)=0");
        s.due("limits(1,4,4)=true ramp(3)=4 speed(3,0)=1");
        s.of("both are within their bounds: w at least 0");
        s.due("slowing(0,-2,0)=-1 slowing(0,-2,1)=-1 slowing(0,-2,2)=-1 limits(6,4,1)=true slowing(1,-3,0)=-1 slowing(2,-3,0)=-1 "
                + "slowing(2,-2,0)=2");
        s.of("both are within their bounds: b at most A");
        s.due("limits(12,3,4)=true ramp(2)=2 ramp(6)=3 speed(200,0)=3 speed(200,1)=6 limits(12,1,4)=true speed(200,1)=2");
        s.of("both are within their bounds: b at least -A");
        s.due("limits(12,3,4)=true slowing(4,0,0)=2 slowing(4,0,2)=-3 slowing(3,0,0)=1 limits(12,1,4)=true slowing(4,0,0)=4");
    }

    private static void badTicks() {
        s.of("not b = 0 with w BAD");
        s.due("bad(2,true)=true ramp(6)=7 speed(6,1)=1 speed(6,5)=1 speed(6,6)=0");
        s.due("slowing(6,1,0)=5 bad(6,true)=true slowing(6,1,0)=-1 slowing(6,0,0)=4");
        s.of("a BAD w by another b");
        s.due("limits(2,1,1)=true bad(1,true)=true ramp(6)=5 speed(6,0)=1 speed(6,1)=2 speed(6,2)=2 speed(6,3)=1");
        s.of("speed 0 is never BAD");
        // Without speed 2 18 is 1 3 4 4 3 1 0 and 1 1 0; with a jerk of 1 it stands between them: -1, 0, 1.
        s.due("limits(4,2,1)=true load(1,0)=true pull(2,0)=true only(true)=true ramp(18)=11 ramp(16)=7 speed(18,5)=1 "
                + "speed(18,6)=0 speed(18,7)=0 speed(18,8)=1 speed(18,9)=1 speed(18,10)=0");
    }

    private static void safeTicks() {
        s.of("SAFE, if LOAD and MASS times b together are at most PULL of w");
        s.due(FAST + "only(true)=true load(98,1)=true ramp(6)=4 load(99,1)=true ramp(6)=5 load(100,1)=true ramp(6)=-1");
        s.due(FAST + "load(97,3)=true move(6,6,0)=4 tick(4)=4 state(6)=3 state(7)=0 load(97,1)=true move(6,6,0)=4 tick(4)=4 state(6)=0");
        s.of("MASS times b without its sign");
        // 2 3 1 0 has -2 into 1; 2 2 2 0 has -2 into 0; 1 2 2 1 0 has none.
        s.due(FAST + "only(true)=true load(0,50)=true pull(1,99)=true ramp(6)=4 speed(6,1)=2 speed(6,2)=2 pull(0,99)=true "
                + "ramp(6)=5 speed(6,0)=2 speed(6,1)=2 speed(6,2)=1");
        s.of("PULL of w, not of v");
        s.due(FAST + "load(101,0)=true pull(3,101)=true move(6,0,0)=4 tick(1)=1 state(6)=2 tick(1)=1 state(6)=2 tick(1)=1 state(6)=3");
        s.due(FAST + "load(0,50)=true pull(0,0)=true pull(2,100)=true move(2,0,0)=2 tick(2)=2 state(6)=0");
    }

    private static void rest() {
        s.of("REST is each (0, a) with a of at most J without its sign");
        for (int j = 1; j <= 4; j++) {
            for (int a = -4; a <= 4; a++) {
                s.due("limits(12,4," + j + ")=true slowing(0," + a + ",0)=" + ticksFromStanding(j, a));
            }
            s.due("limits(12,4," + j + ")=true slowing(1,0,0)=1 slowing(" + j + ",0,0)=1");
        }
        s.of("REST: no other speed");
        s.due("slowing(1,-1,0)=1 slowing(1,1,0)=2 slowing(2,-2,0)=2");
    }

    /** With a change that is too much upwards it must go up and come back; downwards there is no TICK at all. */
    private static int ticksFromStanding(int j, int a) {
        if (Math.abs(a) <= j) {
            return 0;
        }
        if (a < 0) {
            return -1;
        }
        // Jerk 1: 1 1 0, 2 3 3 2 1 0, 3 5 6 6 5 3 1 0. Jerk 2: 1 0, 2 2 0. Jerk 3: 1 0.
        int[][] ticks = {{3, 6, 8}, {2, 3}, {2}};
        return ticks[j - 1][a - j - 1];
    }

    private static void rampOfSteps() {
        s.of("RAMP of n steps (0 .. 200)");
        s.due("limits(1,1,1)=true ramp(0)=0 ramp(199)=200 ramp(200)=201 ramp(201)=-1");
        s.of("7: NONE: n");
        s.bounds("limits(1,1,1)=true", "ramp(#)", 0, "0", 200, "201", "-1");
        s.of("(none for 0 steps)");
        s.due("ramp(0)=0 speed(0,0)=-1 load(1000,100)=true only(true)=true ramp(0)=0 speed(0,0)=-1 "
                + forEach("bad(#,true)", 1, 12, "true") + "ramp(0)=0 limits(1,1,1)=true ramp(0)=0");
        s.of("the first one from (0, 0)");
        s.due("limits(12,4,3)=true speed(200,0)=3 ramp(4)=3 limits(12,4,1)=true ramp(4)=5");
        s.of("the last one to REST");
        // 4 0 and 3 1 0 would end by too much of a change, or begin by it.
        s.due("limits(12,4,3)=true ramp(3)=3 speed(3,0)=2 speed(3,1)=1 ramp(4)=3 speed(4,0)=2 speed(4,1)=2 speed(4,2)=0");
        s.due("limits(12,4,1)=true ramp(3)=4 speed(3,2)=1 speed(3,3)=0");
        s.of("that make n steps in all");
        for (int n = 2; n <= 40; n++) {
            Plain model = new Plain();
            StringBuilder script = new StringBuilder();
            int made = 0;
            for (int t = 0; t < model.ramp(n); t++) {
                made += model.speed(n, t);
                script.append("speed(" + n + "," + t + ")=" + model.speed(n, t) + " ");
            }
            s.due(script + "ramp(" + n + ")=" + (made == n ? model.ramp(n) : -2));
        }
    }

    private static void rampsAsFewAsCanBe() {
        s.of("as few as can be");
        s.due(FAST + "ramp(1)=2 ramp(2)=2 ramp(3)=3 ramp(4)=3 ramp(5)=4 ramp(6)=4 ramp(8)=4 ramp(9)=5 ramp(12)=5 ramp(18)=6 ramp(20)=7");
        s.due("ramp(2)=3 ramp(3)=4 ramp(4)=5 ramp(5)=6 ramp(6)=5 limits(12,4,4)=true ramp(48)=7 ramp(36)=7 ramp(34)=6 ramp(200)=20");
        s.of("of several such rows the greater change where they first differ");
        // 5: 2 2 1 0 and 2 1 2 0 and 1 3 1 0 and 1 2 2 0. 6: 2 3 1 0 and 2 2 2 0 and 1 3 2 0.
        s.due(FAST + "speed(5,0)=2 speed(5,1)=2 speed(5,2)=1 speed(5,3)=0 speed(6,0)=2 speed(6,1)=3 speed(6,2)=1 speed(6,3)=0");
        s.due(FAST + "speed(3,0)=2 speed(3,1)=1 speed(3,2)=0 speed(7,0)=2 speed(7,1)=3 speed(7,2)=2 speed(7,3)=0");
        s.due("limits(2,2,4)=true ramp(3)=3 speed(3,0)=2 speed(3,1)=1 ramp(7)=5 speed(7,0)=2 speed(7,1)=2 speed(7,2)=2 speed(7,3)=1");
    }

    private static void rampsOfSafeOnes() {
        s.of("SAFE ones alone, if ONLY SAFE ones are wanted");
        String threeTooFast = FAST + "load(1,0)=true pull(3,0)=true ";
        s.due(threeTooFast + "ramp(6)=4 speed(6,1)=3 only(true)=true ramp(6)=4 speed(6,0)=2 speed(6,1)=2 speed(6,2)=2 speed(6,3)=0");
        s.due(FAST + "load(1,0)=true pull(2,0)=true ramp(6)=4 only(true)=true ramp(6)=5 speed(6,0)=1 speed(6,1)=3 speed(6,2)=1 speed(6,3)=1 "
                + "speed(6,4)=0 only(false)=true ramp(6)=4");
        s.of("SAFE ones alone: the last TICK too");
        s.due(FAST + "load(1,0)=true pull(0,0)=true only(true)=true ramp(6)=-1 ramp(0)=0 pull(0,1)=true ramp(6)=4");
    }

    private static void rampsThatAreNot() {
        s.of("There may be none");
        s.due("ramp(1)=-1 speed(1,0)=-1 move(1,0,0)=-1 ramp(2)=3 ramp(1)=-1");
        s.due("bad(1,true)=true bad(2,true)=true ramp(6)=-1 ramp(2)=-1");
        s.due("limits(1,1,1)=true bad(1,true)=true ramp(0)=0 ramp(1)=-1 ramp(2)=-1 ramp(199)=-1 ramp(200)=-1");
        s.due("load(1000,0)=true only(true)=true ramp(1)=-1 ramp(200)=-1 ramp(0)=0 only(false)=true ramp(200)=38");
    }

    private static void slowings() {
        s.of("SLOWING: (none, if it is REST)");
        s.due("slowing(0,0,0)=0 slowing(0,0,1)=0 slowing(0,0,2)=-1 slowing(0,1,0)=0 slowing(0,1,1)=0 slowing(0,1,2)=-1 "
                + "slowing(0,-1,0)=0 slowing(0,-1,1)=0 slowing(0,-1,2)=-1");
        s.of("SLOWING: as few as can be");
        // 5 3 1 0 from 6; from (6, 2) with a jerk of 4 it is 4 2 0.
        s.due("slowing(6,0,0)=4 slowing(6,0,1)=9 " + FAST + "slowing(6,2,0)=3 slowing(6,2,1)=6 slowing(5,0,0)=3 slowing(5,0,1)=4");
        s.of("SLOWING: TICKS from there to REST: none into a STATE without a way to it");
        // From (0, 2) a TICK by 2 leads to (2, 2), and from there there is none; from (2, 1) it is 2 1 0, not 3.
        s.due("limits(2,2,1)=true slowing(2,2,0)=-1 slowing(0,2,0)=3 slowing(0,2,1)=2 slowing(0,2,2)=1");
        s.due("limits(3,1,1)=true bad(3,true)=true slowing(3,1,0)=-1 slowing(2,1,0)=3 slowing(2,1,1)=3 slowing(2,1,2)=0");
        s.of("SLOWING: then with as few steps");
        s.due(FAST + "slowing(3,0,0)=2 slowing(3,0,1)=1 slowing(3,0,2)=-2 slowing(5,0,2)=-2");
        s.of("SLOWING: (There may be none)");
        s.due("slowing(6,1,0)=5 slowing(6,2,0)=-1 slowing(6,2,1)=-1 slowing(6,2,2)=-1 slowing(5,2,0)=6 slowing(5,2,1)=21 slowing(5,2,2)=1");
        s.due("bad(6,true)=true slowing(5,2,0)=-1 slowing(5,2,1)=-1 slowing(5,2,2)=-1");
    }

    private static void slowingsAlike() {
        s.of("SLOWING: then with the greater change where they first differ");
        // 10 8 5 3 1 0 and 9 8 6 3 1 0 are 6 TICKS and 27 steps.
        String alike = "limits(11,3,1)=true load(40,4)=true pull(6,50)=true pull(7,42)=true only(true)=true ";
        s.due(alike + "slowing(11,-1,0)=6 slowing(11,-1,1)=27 slowing(11,-1,2)=-1 slowing(10,-1,1)=17 slowing(9,-2,1)=18");
    }

    private static void slowingsOfSafeOnes() {
        String twoTooFast = FAST + "load(1,0)=true pull(2,0)=true ";
        s.of("SLOWING: SAFE ones alone, if ONLY SAFE ones are wanted");
        s.due(twoTooFast + "slowing(4,0,0)=2 slowing(4,0,1)=2 slowing(4,0,2)=-2 only(true)=true slowing(4,0,0)=3 slowing(4,0,1)=4 "
                + "slowing(4,0,2)=-1 only(false)=true slowing(4,0,0)=2");
        s.of("SLOWING: and that can be, else any");
        s.due(twoTooFast + "only(true)=true pull(0,0)=true slowing(4,0,0)=2 slowing(4,0,1)=2 slowing(4,0,2)=-2 slowing(0,0,0)=0 "
                + "pull(0,1)=true slowing(4,0,0)=3");
        // Without 5, 4 and 3 there is a SAFE one from (2, 0), but none from (6, -2): 4 2 0 then.
        s.due(FAST + "load(1,0)=true pull(5,0)=true pull(4,0)=true pull(3,0)=true only(true)=true slowing(2,0,0)=1 slowing(6,-2,0)=3 "
                + "slowing(6,-2,1)=6 pull(4,1)=true slowing(6,-2,0)=3");
        s.of("SLOWING: none, SAFE or not");
        s.due("only(true)=true slowing(6,2,0)=-1 load(1000,100)=true slowing(6,2,0)=-1 slowing(6,0,0)=4");
    }

    private static void speedOfRamps() {
        s.of("8: The speed in TICK t (from 0 on)");
        s.due(FAST + "speed(12,0)=2 speed(12,1)=4 speed(12,2)=4 speed(12,3)=2 speed(12,4)=0");
        s.of("8: NONE: there is none such (t)");
        s.boundsThere(FAST, "speed(12,#)", 0, "2", 4, "0", "-1");
        s.due("limits(1,1,1)=true speed(200,199)=1 speed(200,200)=0 speed(200,201)=-1 speed(200,-1)=-1 speed(2,2)=0 speed(2,3)=-1");
        s.of("8: NONE: there is none such (n)");
        s.due("limits(1,1,1)=true speed(-1,0)=-1 speed(0,0)=-1 speed(200,0)=1 speed(201,0)=-1 speed(MIN,0)=-1 speed(MAX,0)=-1 "
                + "speed(MIN,MIN)=-1 speed(MAX,MAX)=-1 speed(0,-1)=-1 speed(201,-1)=-1");
        for (String call : new String[] {"speed(-1,0)", "speed(0,0)", "speed(201,0)", "speed(200,MAX)", "speed(2,-1)", "speed(MIN,MIN)"}) {
            s.refusedAnywhere(call, "-1", true);
        }
        s.of("8: NONE: there is none such (RAMP)");
        s.due("speed(1,0)=-1 speed(1,-1)=-1 speed(1,1)=-1 ramp(1)=-1");
    }

    private static void slowingAnswers() {
        s.of("9: what 0 TICKS, 1 steps, 2 the change of its first TICK");
        s.due("slowing(0,2,0)=3 slowing(0,2,1)=2 slowing(0,2,2)=1 " + FAST + "slowing(4,2,0)=2 slowing(4,2,1)=2 slowing(4,2,2)=-2");
        s.of("9: NONE: what");
        s.bounds("", "slowing(0,2,#)", 0, "3", 2, "1", "-1");
        s.of("9: NONE: there is none (2: also at REST)");
        s.due("slowing(0,0,2)=-1 slowing(0,0,1)=0 slowing(0,0,0)=0 slowing(6,2,2)=-1");
        s.due("limits(6,4,4)=true slowing(0,4,2)=-1 slowing(0,-4,2)=-1 slowing(0,4,1)=0 slowing(0,-4,1)=0");
        s.of("9: NONE: no such STATE");
        s.due("slowing(-1,0,0)=-1 slowing(7,0,0)=-1 slowing(7,-3,1)=-1 slowing(0,3,0)=-1 slowing(1,-3,2)=-1 slowing(MIN,0,0)=-1 "
                + "slowing(MAX,0,0)=-1 slowing(0,MIN,0)=-1 slowing(0,MAX,0)=-1 slowing(MAX,MAX,MAX)=-1 slowing(MIN,MIN,MIN)=-1");
    }

    /** Rows that were found ahead of a telling are not those behind it, nor behind two of them. */
    private static void tellings() {
        s.of("2 to 6: what is told is so for the next RAMP and SLOWING, behind any other telling");
        String[] told = {"limits(6,2,4)", "limits(5,3,2)", "bad(2,true)", "bad(2,false)", "pull(1,0)", "pull(3,99)", "pull(1,1000)",
            "load(99,1)", "load(0,0)", "only(true)", "only(false)"};
        String asked = " ramp(2) ramp(6) ramp(40) speed(6,0) speed(6,1) speed(40,2) slowing(4,1,0) slowing(4,1,1) slowing(5,0,2) ";
        for (String first : told) {
            for (String second : told) {
                s.dueAsModel(asked + first + asked + second + asked + first + " " + second + asked);
                s.dueAsModel("only(true) load(99,1) limits(6,2,4)" + asked + first + " " + second + asked + second + " " + first + asked);
            }
        }
    }

    /** The last call is answered as the first one is. */
    private static void calls512() {
        s.of("An object is used for at most 512 calls");
        StringBuilder script = new StringBuilder();
        for (int i = 0; i < 127; i++) {
            script.append("limits(12,4,4)=true ramp(200)=20 limits(1,1,1)=true ramp(200)=201 ");
        }
        s.due(script + "limits(6,2,4)=true move(6,0,0)=4 tick(9)=4 place(0,true)=6");
    }
}
