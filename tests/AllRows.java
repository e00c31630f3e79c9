import java.util.Random;

/** For many limits every RAMP with all its speeds, and every SLOWING, beside the plain model. */
public final class AllRows {
    private static final Check check = new Check("AllRows");
    private static final Random random = new Random(20261118);

    /** What is told to an object; told once more to the next, as an object has 512 calls alone. */
    private static int[] limits;
    private static boolean[] bads;
    private static int[] pulls;
    private static int load;
    private static int mass;
    private static boolean onlySafe;

    private static RampDriver real;
    private static Plain plain;
    private static int calls;

    public static void main(String[] args) {
        int[] speeds = {1, 2, 3, 4, 6, 9, 12};
        for (int speed : speeds) {
            for (int change = 1; change <= 4; change++) {
                for (int jerk = 1; jerk <= 4; jerk++) {
                    limits = new int[] {speed, change, jerk};
                    choose();
                    plain = new Plain();
                    tell(null, plain);
                    calls = 512;
                    askRamps();
                    askSlowings();
                }
            }
        }
        check.end();
    }

    private static void choose() {
        bads = new boolean[13];
        pulls = new int[13];
        for (int v = 0; v <= 12; v++) {
            bads[v] = v > 0 && random.nextInt(5) == 0;
            pulls[v] = random.nextInt(6) == 0 ? random.nextInt(100) : 100 + random.nextInt(60);
        }
        load = random.nextInt(100);
        mass = random.nextInt(30);
        onlySafe = random.nextBoolean();
    }

    private static void tell(RampDriver x, Plain y) {
        for (int v = 0; v <= 12; v++) {
            if (x != null) {
                x.bad(v, bads[v]);
                x.pull(v, pulls[v]);
            } else {
                y.bad(v, bads[v]);
                y.pull(v, pulls[v]);
            }
        }
        if (x != null) {
            x.limits(limits[0], limits[1], limits[2]);
            x.load(load, mass);
            x.only(onlySafe);
        } else {
            y.limits(limits[0], limits[1], limits[2]);
            y.load(load, mass);
            y.only(onlySafe);
        }
    }

    private static RampDriver next() {
        if (calls >= 512) {
            real = new RampDriver();
            tell(real, null);
            calls = 29;
        }
        calls++;
        return real;
    }

    private static String told() {
        return limits[0] + " " + limits[1] + " " + limits[2] + ": ";
    }

    private static void askRamps() {
        for (int n = 0; n <= 200; n++) {
            int ticks = plain.ramp(n);
            check.due(told() + "ramp(" + n + ")", next().ramp(n), ticks);
            int stride = n % 7 == 0 ? 1 : 5;
            for (int t = 0; t <= ticks; t += stride) {
                check.due(told() + "speed(" + n + "," + t + ")", next().speed(n, t), plain.speed(n, t));
            }
        }
    }

    private static void askSlowings() {
        for (int v = 0; v <= limits[0]; v++) {
            for (int a = -limits[1]; a <= limits[1]; a++) {
                for (int what = 0; what <= 2; what++) {
                    String call = told() + "slowing(" + v + "," + a + "," + what + ")";
                    check.due(call, next().slowing(v, a, what), plain.slowing(v, a, what));
                }
            }
        }
    }
}
