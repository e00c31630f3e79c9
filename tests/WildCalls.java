import java.util.NoSuchElementException;
import java.util.Random;

/** Calls with any arguments in any state: nothing but the two exceptions of the document is ever thrown. */
public final class WildCalls {
    private static final int[] WILD = {Integer.MIN_VALUE, Integer.MIN_VALUE + 1, -1000000, -2001, -201, -13, -5, -1, 0, 1, 2,
        3, 4, 5, 6, 8, 9, 12, 13, 100, 101, 200, 201, 1000, 1001, 2000, 2001, 1000000, Integer.MAX_VALUE - 1,
        Integer.MAX_VALUE};

    private static final Check check = new Check("WildCalls");
    private static final Random random = new Random(41);

    public static void main(String[] args) {
        for (int run = 0; run < 1500; run++) {
            RampDriver x = new RampDriver();
            for (int call = 0; call < 512; call++) {
                makeCall(x, random.nextInt(23), "run " + run + " call " + call);
            }
        }
        check.end();
    }

    private static int wild() {
        return random.nextInt(3) == 0 ? WILD[random.nextInt(WILD.length)] : random.nextInt(14) - 1;
    }

    private static void makeCall(RampDriver x, int which, String where) {
        boolean mayThrow = which == 11 || which == 18;
        try {
            answer(x, which);
            check.due(where, 0, 0);
        } catch (NoSuchElementException e) {
            check.due(where + " which " + which + " " + e, mayThrow, true);
        } catch (RuntimeException e) {
            check.due(where + " which " + which + " " + e, false, true);
        }
    }

    private static long answer(RampDriver x, int which) {
        switch (which) {
            case 0: return x.limits(wild(), wild(), wild()) ? 1 : 0;
            case 1: return x.bad(wild(), random.nextBoolean()) ? 1 : 0;
            case 2: return x.pull(wild(), wild()) ? 1 : 0;
            case 3: return x.load(wild(), wild()) ? 1 : 0;
            case 4: return x.only(random.nextBoolean()) ? 1 : 0;
            case 5: return x.ramp(wild());
            case 6: return x.speed(wild(), wild());
            case 7: return x.slowing(wild(), wild(), wild());
            case 8: return x.move(wild(), wild(), wild());
            case 9: return x.tick(wild());
            case 10: return x.stop();
            case 11: return x.place(wild(), random.nextBoolean());
            case 12: return x.state(wild());
            case 13: return x.at(wild(), wild()) ? 1 : 0;
            case 14: return x.on(wild());
            case 15: return x.home(wild());
            case 16: return x.table(wild(), wild()) ? 1 : 0;
            case 17: return x.set(wild(), wild()) ? 1 : 0;
            case 18: return x.current(wild(), wild());
            case 19: return x.miss(wild());
            case 20: return x.evenness();
            case 21: return x.smooth();
            default: return x.tick(wild()) + x.stop();
        }
    }
}
