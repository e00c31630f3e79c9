import java.util.Random;

/** Long runs of calls by a fixed seed, each answer beside the one of the plain model. */
public final class LongRuns {
    private static final int RUNS = 160;
    private static final int CALLS = 512;

    private static final Check check = new Check("LongRuns");
    private static Random random;
    private static RampDriver real;
    private static Plain plain;
    private static String where;
    /** How large numbers are in this run: many runs are near the small ones, where rules meet. */
    private static boolean isSmall;

    public static void main(String[] args) {
        for (int run = 0; run < RUNS && check.isAllDue(); run++) {
            random = new Random(7919L * run + 1);
            real = new RampDriver();
            plain = new Plain();
            isSmall = run % 2 == 0;
            for (int call = 0; call < CALLS; call++) {
                where = "run " + run + " call " + call + " ";
                makeCall();
            }
        }
        check.end();
    }

    private static int from(int least, int most) {
        return least + random.nextInt(most - least + 1);
    }

    /** Mostly within the bounds, at times just outside of them or far off. */
    private static int near(int least, int most) {
        switch (random.nextInt(40)) {
            case 0:
                return least - 1;
            case 1:
                return most + 1;
            case 2:
                return random.nextInt();
            case 3:
                return least;
            case 4:
                return most;
            default:
                return from(least, most);
        }
    }

    private static int aStep() {
        return isSmall ? near(0, 20) : near(0, 200);
    }

    private static int aWay() {
        if (random.nextInt(30) == 0) {
            return near(-200, 200);
        }
        return isSmall ? from(-12, 12) : from(-200, 200);
    }

    private static void makeCall() {
        switch (random.nextInt(20)) {
            case 0:
            case 1:
                makeTelling();
                break;
            case 2:
            case 3:
            case 4:
                askRows();
                break;
            case 5:
            case 6:
            case 7:
                makeMove();
                break;
            case 8:
            case 9:
            case 10:
            case 11:
                makeTick();
                break;
            case 12:
            case 13:
            case 14:
            case 15:
            case 16:
                askAxes();
                break;
            default:
                makeCurrents();
                break;
        }
    }

    private static void makeTelling() {
        switch (random.nextInt(6)) {
            case 0:
                int v = near(1, 12);
                int a = near(1, 4);
                int j = near(1, 4);
                check.due(where + "limits(" + v + "," + a + "," + j + ")", real.limits(v, a, j), plain.limits(v, a, j));
                break;
            case 1:
            case 2:
                int speed = isSmall ? near(1, 5) : near(1, 12);
                boolean is = random.nextInt(3) != 0;
                check.due(where + "bad(" + speed + "," + is + ")", real.bad(speed, is), plain.bad(speed, is));
                break;
            case 3:
                int pulled = near(0, 12);
                int most = random.nextBoolean() ? from(60, 140) : near(0, 1000);
                check.due(where + "pull(" + pulled + "," + most + ")", real.pull(pulled, most), plain.pull(pulled, most));
                break;
            case 4:
                int load = random.nextInt(4) != 0 ? from(40, 100) : near(0, 1000);
                int mass = random.nextInt(4) != 0 ? from(0, 40) : near(0, 100);
                check.due(where + "load(" + load + "," + mass + ")", real.load(load, mass), plain.load(load, mass));
                break;
            default:
                boolean wanted = random.nextBoolean();
                check.due(where + "only(" + wanted + ")", real.only(wanted), plain.only(wanted));
                break;
        }
    }

    private static void askRows() {
        int n = aStep();
        switch (random.nextInt(3)) {
            case 0:
                check.due(where + "ramp(" + n + ")", real.ramp(n), plain.ramp(n));
                break;
            case 1:
                int t = near(0, Math.max(1, plain.ramp(n)));
                check.due(where + "speed(" + n + "," + t + ")", real.speed(n, t), plain.speed(n, t));
                break;
            default:
                int v = near(0, 12);
                int a = near(-4, 4);
                int what = near(0, 2);
                check.due(where + "slowing(" + v + "," + a + "," + what + ")", real.slowing(v, a, what), plain.slowing(v, a, what));
                break;
        }
    }

    private static void makeMove() {
        int d0 = aWay();
        int d1 = aWay();
        int d2 = aWay();
        if (random.nextInt(25) == 0) {
            d0 = 0;
            d1 = 0;
            d2 = 0;
        }
        check.due(where + "move(" + d0 + "," + d1 + "," + d2 + ")", real.move(d0, d1, d2), plain.move(d0, d1, d2));
    }

    private static void makeTick() {
        if (random.nextInt(6) == 0) {
            check.due(where + "stop()", real.stop(), plain.stop());
            return;
        }
        int k = random.nextInt(4) == 0 ? near(0, 1000) : from(0, 4);
        check.due(where + "tick(" + k + ")", real.tick(k), plain.tick(k));
    }

    private static void askAxes() {
        int axis = near(0, 2);
        switch (random.nextInt(8)) {
            case 0:
            case 1:
                boolean isTrue = random.nextBoolean();
                RampDriver asked = real;
                Plain model = plain;
                check.due(where + "place(" + axis + "," + isTrue + ")",
                        Check.answerOf(() -> asked.place(axis, isTrue)), Check.answerOf(() -> model.place(axis, isTrue)));
                break;
            case 2:
            case 3:
            case 4:
                int what = near(0, 8);
                check.due(where + "state(" + what + ")", real.state(what), plain.state(what));
                break;
            case 5:
                int s = random.nextBoolean() ? from(-30, 30) : near(-2000, 2000);
                check.due(where + "at(" + axis + "," + s + ")", real.at(axis, s), plain.at(axis, s));
                break;
            case 6:
                check.due(where + "on(" + axis + ")", real.on(axis), plain.on(axis));
                break;
            default:
                check.due(where + "home(" + axis + ")", real.home(axis), plain.home(axis));
                break;
        }
    }

    private static void makeCurrents() {
        int p = near(0, 8);
        switch (random.nextInt(8)) {
            case 0:
                int n = random.nextInt(4) == 0 ? near(0, 9) : 1 << from(0, 3);
                int level = near(1, 100);
                check.due(where + "table(" + n + "," + level + ")", real.table(n, level), plain.table(n, level));
                break;
            case 1:
            case 2:
                int a = near(0, 60);
                check.due(where + "set(" + p + "," + a + ")", real.set(p, a), plain.set(p, a));
                break;
            case 3:
            case 4:
                int far = near(0, 1000);
                int which = near(0, 1);
                RampDriver asked = real;
                Plain model = plain;
                check.due(where + "current(" + far + "," + which + ")",
                        Check.answerOf(() -> asked.current(far, which)), Check.answerOf(() -> model.current(far, which)));
                break;
            case 5:
                check.due(where + "miss(" + p + ")", real.miss(p), plain.miss(p));
                break;
            case 6:
                check.due(where + "evenness()", real.evenness(), plain.evenness());
                break;
            default:
                check.due(where + "smooth()", real.smooth(), plain.smooth());
                break;
        }
    }
}
