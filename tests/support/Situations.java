import java.util.ArrayList;
import java.util.List;

/** What an object may have been through when a call is refused, and what it is asked then. */
final class Situations {
    /** A name, the calls that lead there from a new object, and whether a MOVE goes on then. */
    record Situation(String name, String calls, boolean inMove) {
    }

    /** 2 4 6 and four TICKS more; three of its places are told apart at each TICK. */
    private static final String MOVE = "limits(6,2,4)=true at(0,3)=true at(2,-1)=true move(20,-10,7)=7 ";
    /** Speeds 3 and 5 are not SAFE; 2, 4 and 6 are BAD: the SLOWING from (2, 2) is 6 8 8 6 2 0. */
    static final String BEYOND = "limits(8,4,2)=true load(1,0)=true pull(3,0)=true pull(5,0)=true bad(2,true)=true "
            + "bad(4,true)=true bad(6,true)=true only(true)=true move(30,-15,8)=8 tick(1)=1 stop()=6 ";

    static final List<Situation> ALL = List.of(
            new Situation("a new object", "", false),
            new Situation("an object that was told much", "limits(7,3,2)=true bad(3,true)=true pull(2,60)=true "
                    + "pull(0,90)=true load(30,7)=true only(true)=true at(0,7)=true at(1,-2)=true table(8,50)=true "
                    + "set(3,44)=true set(8,1)=true", false),
            new Situation("a home that was found", "at(1,5)=true home(1)=5", false),
            new Situation("a MOVE that has not begun", MOVE, true),
            new Situation("a MOVE that goes on", MOVE + "tick(2)=2", true),
            new Situation("a MOVE ahead of its last TICK", MOVE + "tick(6)=6", true),
            new Situation("a MOVE that is over", MOVE + "tick(7)=7", false),
            new Situation("a MOVE that was stopped", MOVE + "tick(2)=2 stop()=2", true),
            new Situation("a MOVE that was stopped, ahead of its last TICK", MOVE + "tick(2)=2 stop()=2 tick(1)=1", true),
            new Situation("a MOVE that was stopped and is over", MOVE + "tick(2)=2 stop()=2 tick(2)=2", false),
            new Situation("a MOVE that was stopped ahead of its first TICK", MOVE + "stop()=0", false),
            new Situation("a MOVE of no steps", MOVE + "tick(7)=7 move(0,0,0)=0", false),
            new Situation("a MOVE with steps that were missed",
                    "limits(6,2,4)=true pull(4,99)=true load(100,0)=true move(12,-7,1)=5 tick(2)=2", true),
            new Situation("a MOVE that was stopped and goes beyond n", BEYOND + "tick(5)=5", true));

    /** All that is seen at once. */
    static final List<String> SEEN = new ArrayList<>();
    /** What comes of it later: the rest of the MOVE, the SWITCHES, another MOVE. */
    static final List<String> LATER = new ArrayList<>();
    /** RAMPS and SLOWINGS. */
    static final List<String> ROWS = new ArrayList<>();
    /** Each PULL, by what LOADS it is too low for. */
    static final List<String> PULLS = new ArrayList<>();
    /** LOAD and MASS, by what PULLS they are too much for. */
    static final List<String> LOADS = new ArrayList<>();

    static {
        askSeen();
        askLater();
        askRows();
        askPulls();
        askLoads();
    }

    private Situations() {
    }

    static List<List<String>> questions(boolean all) {
        return all ? List.of(SEEN, LATER, ROWS, PULLS, LOADS) : List.of(SEEN, LATER);
    }

    /** Each int from the first number to the last one put in the call for its #. */
    private static void each(List<String> asked, String call, int first, int last) {
        for (int i = first; i <= last; i++) {
            asked.add(call.replace("#", Integer.toString(i)));
        }
    }

    private static void askAxes(List<String> asked) {
        each(asked, "place(#,false)", 0, 2);
        each(asked, "place(#,true)", 0, 2);
        each(asked, "on(#)", 0, 2);
    }

    private static void askSeen() {
        each(SEEN, "state(#)", 0, 8);
        askAxes(SEEN);
        each(SEEN, "current(#,0)", 0, 31);
        each(SEEN, "current(#,1)", 0, 31);
        each(SEEN, "miss(#)", 0, 8);
        SEEN.add("evenness()");
    }

    private static void askLater() {
        for (int t = 0; t < 10; t++) {
            LATER.add("tick(1)");
            each(LATER, "state(#)", 0, 8);
            askAxes(LATER);
        }
        LATER.add("tick(1000)");
        each(LATER, "home(#)", 0, 2);
        askAxes(LATER);
        LATER.add("smooth()");
        each(LATER, "current(#,0)", 0, 8);
        LATER.add("move(13,-7,4)");
        LATER.add("tick(2)");
        LATER.add("stop()");
        LATER.add("tick(1000)");
        each(LATER, "state(#)", 0, 8);
        askAxes(LATER);
        tellPlainly(LATER);
    }

    private static void askRows() {
        each(ROWS, "ramp(#)", 0, 30);
        ROWS.add("ramp(200)");
        for (int a = -4; a <= 4; a++) {
            for (int what = 0; what <= 2; what++) {
                each(ROWS, "slowing(#," + a + "," + what + ")", 0, 12);
            }
        }
    }

    /** The answers tell what was BAD, and whether only SAFE ones were wanted. */
    private static void tellPlainly(List<String> asked) {
        asked.add("tick(1000)");
        asked.add("limits(12,1,1)");
        each(asked, "bad(#,false)", 1, 12);
        asked.add("only(false)");
    }

    private static void askPulls() {
        tellPlainly(PULLS);
        for (int load : new int[] {1, 59, 60, 61, 89, 90, 91, 98, 99, 100, 101, 500, 1000}) {
            PULLS.add("load(" + load + ",0)");
            PULLS.add("move(200,0,0)");
            PULLS.add("tick(1000)");
            PULLS.add("state(6)");
            PULLS.add("only(true)");
            PULLS.add("ramp(2)");
            PULLS.add("only(false)");
        }
    }

    private static void askLoads() {
        tellPlainly(LOADS);
        LOADS.add("only(true)");
        for (int most : new int[] {0, 1, 29, 30, 36, 37, 44, 99, 100, 107, 1000}) {
            each(LOADS, "pull(#," + most + ")", 0, 12);
            LOADS.add("ramp(2)");
            LOADS.add("ramp(40)");
        }
    }
}
