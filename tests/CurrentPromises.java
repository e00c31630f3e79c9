/** Promises 18 to 23: the currents between the steps. The answers were found by hand. */
public final class CurrentPromises {
    private static final Check check = new Check("CurrentPromises");

    public static void main(String[] args) {
        promise18();
        promise18Refused();
        promise19();
        promise19Refused();
        promise20();
        promise20Throws();
        promise21();
        promise22();
        promise23();
        promise23Middle();
        promise23Nearest();
        promise23All();
        inMove();
        check.end();
    }

    /** The numbers A are what the first quarter's first current is; the last one is its second at 0. */
    private static void dueNumbers(String told, RampDriver x, int... numbers) {
        int n = numbers.length - 1;
        for (int p = 0; p < n; p++) {
            check.due(told + " A(" + p + ")", x.current(p, 0), numbers[p]);
            check.due(told + " A(" + (n - p) + ")", x.current(p, 1), numbers[n - p]);
        }
        check.due(told + " miss(n)", x.miss(n) >= 0, true);
        check.due(told + " miss(n + 1)", x.miss(n + 1), -1);
    }

    private static void promise18() {
        RampDriver x = new RampDriver();
        dueNumbers("at first", x, 10, 7, 5, 2, 0);
        check.due("table(1,100)", x.table(1, 100), true);
        dueNumbers("1 100", x, 100, 0);
        check.due("table(2,1)", x.table(2, 1), true);
        dueNumbers("2 1", x, 1, 0, 0);
        check.due("table(4,9)", x.table(4, 9), true);
        dueNumbers("4 9", x, 9, 6, 4, 2, 0);
        check.due("table(8,99)", x.table(8, 99), true);
        dueNumbers("8 99", x, 99, 86, 74, 61, 49, 37, 24, 12, 0);
        check.due("set(3,1)", x.set(3, 1), true);
        check.due("set(8,99)", x.set(8, 99), true);
        check.due("set(0,0)", x.set(0, 0), true);
        check.due("table(8,99) again", x.table(8, 99), true);
        dueNumbers("8 99 again", x, 99, 86, 74, 61, 49, 37, 24, 12, 0);
        check.due("table(8,100)", x.table(8, 100), true);
        dueNumbers("8 100", x, 100, 87, 75, 62, 50, 37, 25, 12, 0);
        check.due("table(4,10)", x.table(4, 10), true);
        dueNumbers("4 10", x, 10, 7, 5, 2, 0);
    }

    private static void promise18Refused() {
        RampDriver x = new RampDriver();
        check.due("set(1,9)", x.set(1, 9), true);
        int[][] wrong = {{0, 10}, {3, 10}, {5, 10}, {6, 10}, {7, 10}, {9, 10}, {16, 10}, {-1, 10}, {-4, 10}, {4, 0},
            {4, 101}, {4, -1}, {8, 0}, {8, 101}, {Integer.MIN_VALUE, 10}, {Integer.MAX_VALUE, 10},
            {4, Integer.MIN_VALUE}, {4, Integer.MAX_VALUE}};
        for (int[] one : wrong) {
            check.due("table(" + one[0] + "," + one[1] + ")", x.table(one[0], one[1]), false);
            dueNumbers("behind a refused table", x, 10, 9, 5, 2, 0);
            check.due("evenness behind a refused table", x.evenness(), 50);
        }
    }

    private static void promise19() {
        RampDriver x = new RampDriver();
        check.due("set(0,0)", x.set(0, 0), true);
        check.due("set(1,10)", x.set(1, 10), true);
        check.due("set(2,3)", x.set(2, 3), true);
        check.due("set(2,3) again", x.set(2, 3), true);
        check.due("set(3,4)", x.set(3, 4), true);
        check.due("set(4,6)", x.set(4, 6), true);
        dueNumbers("set", x, 0, 10, 3, 4, 6);
        check.due("table(1,1)", x.table(1, 1), true);
        check.due("set(1,1)", x.set(1, 1), true);
        dueNumbers("1 1", x, 1, 1);
        check.due("table(8,100)", x.table(8, 100), true);
        check.due("set(8,100)", x.set(8, 100), true);
        dueNumbers("8 100", x, 100, 87, 75, 62, 50, 37, 25, 12, 100);
    }

    private static void promise19Refused() {
        RampDriver x = new RampDriver();
        int[][] wrong = {{-1, 1}, {5, 1}, {8, 1}, {0, -1}, {0, 11}, {4, 11}, {Integer.MIN_VALUE, 1},
            {Integer.MAX_VALUE, 1}, {0, Integer.MIN_VALUE}, {0, Integer.MAX_VALUE}};
        for (int[] one : wrong) {
            check.due("set(" + one[0] + "," + one[1] + ")", x.set(one[0], one[1]), false);
            dueNumbers("behind a refused set", x, 10, 7, 5, 2, 0);
        }
        check.due("table(2,20)", x.table(2, 20), true);
        check.due("set(3,1)", x.set(3, 1), false);
        check.due("set(2,20)", x.set(2, 20), true);
        check.due("set(2,21)", x.set(2, 21), false);
        dueNumbers("2 20", x, 20, 10, 20);
    }

    private static void promise20() {
        RampDriver x = new RampDriver();
        check.due("set(4,1)", x.set(4, 1), true);
        // A is 10 7 5 2 1.
        int[] first = {10, 7, 5, 2, -1, -2, -5, -7, -10, -7, -5, -2, 1, 2, 5, 7};
        int[] second = {1, 2, 5, 7, 10, 7, 5, 2, -1, -2, -5, -7, -10, -7, -5, -2};
        for (int p = 0; p <= 1000; p++) {
            check.due("current(" + p + ",0)", x.current(p, 0), first[p % 16]);
            if (p % 256 == 0) {
                x = new RampDriver();
                check.due("set(4,1)", x.set(4, 1), true);
            }
            check.due("current(" + p + ",1)", x.current(p, 1), second[p % 16]);
        }
        check.due("table(1,7)", x.table(1, 7), true);
        int[] one = {7, 0, -7, 0, 7};
        int[] two = {0, 7, 0, -7, 0};
        for (int p = 0; p <= 4; p++) {
            check.due("1 7: current(" + p + ",0)", x.current(p, 0), one[p]);
            check.due("1 7: current(" + p + ",1)", x.current(p, 1), two[p]);
        }
        check.due("1 7: current(999,1)", x.current(999, 1), -7);
        check.due("1 7: current(1000,0)", x.current(1000, 0), 7);
        check.due("table(8,100)", x.table(8, 100), true);
        check.due("8 100: current(1000,0)", x.current(1000, 0), 0);
        check.due("8 100: current(1000,1)", x.current(1000, 1), 100);
        check.due("8 100: current(31,0)", x.current(31, 0), 87);
        check.due("8 100: current(31,1)", x.current(31, 1), -12);
    }

    private static void promise20Throws() {
        RampDriver x = new RampDriver();
        int[] wrongPlaces = {-1, 1001, Integer.MIN_VALUE, Integer.MAX_VALUE};
        for (int p : wrongPlaces) {
            check.dueThrow("current(" + p + ",0)", () -> x.current(p, 0));
            check.dueThrow("current(" + p + ",1)", () -> x.current(p, 1));
        }
        int[] wrongOnes = {-1, 2, Integer.MIN_VALUE, Integer.MAX_VALUE};
        for (int which : wrongOnes) {
            check.dueThrow("current(0," + which + ")", () -> x.current(0, which));
            check.dueThrow("current(1000," + which + ")", () -> x.current(1000, which));
        }
        dueNumbers("behind throws", x, 10, 7, 5, 2, 0);
        check.due("current(1000,0)", x.current(1000, 0), -10);
        check.due("current(1000,1)", x.current(1000, 1), 0);
    }

    private static void promise21() {
        RampDriver x = new RampDriver();
        int[] misses = {0, 47, 50, 47, 0};
        for (int p = 0; p <= 4; p++) {
            check.due("miss(" + p + ")", x.miss(p), misses[p]);
        }
        int[] wrong = {-1, 5, 8, Integer.MIN_VALUE, Integer.MAX_VALUE};
        for (int p : wrong) {
            check.due("miss(" + p + ")", x.miss(p), -1);
        }
        check.due("set(1,10)", x.set(1, 10), true);
        check.due("more than L squared: miss(1)", x.miss(1), 4);
        check.due("more than L squared: miss(3)", x.miss(3), 4);
        check.due("set(2,10)", x.set(2, 10), true);
        check.due("miss(2)", x.miss(2), 100);
        check.due("set(2,0)", x.set(2, 0), true);
        check.due("miss(2)", x.miss(2), 100);
        check.due("table(8,100)", x.table(8, 100), true);
        check.due("miss(8)", x.miss(8), 0);
        check.due("miss(9)", x.miss(9), -1);
        check.due("miss(4)", x.miss(4), 5000);
        check.due("table(1,100)", x.table(1, 100), true);
        check.due("miss(2)", x.miss(2), -1);
        check.due("miss(1)", x.miss(1), 0);
    }

    private static void promise22() {
        RampDriver x = new RampDriver();
        check.due("evenness()", x.evenness(), 50);
        check.due("set(2,7)", x.set(2, 7), true);
        check.due("evenness()", x.evenness(), 47);
        check.due("set(1,10)", x.set(1, 10), true);
        check.due("evenness()", x.evenness(), 4);
        check.due("set(4,9)", x.set(4, 9), true);
        check.due("at the ends: evenness()", x.evenness(), 81);
        check.due("set(0,0)", x.set(0, 0), true);
        check.due("at the ends: evenness()", x.evenness(), 19);
        check.due("table(1,5)", x.table(1, 5), true);
        check.due("evenness()", x.evenness(), 0);
        check.due("table(8,100)", x.table(8, 100), true);
        check.due("evenness()", x.evenness(), 5000);
        check.due("table(2,3)", x.table(2, 3), true);
        check.due("evenness()", x.evenness(), 7);
    }

    private static void promise23() {
        RampDriver x = new RampDriver();
        check.due("smooth()", x.smooth(), 2);
        dueNumbers("smooth", x, 10, 10, 7, 0, 0);
        check.due("smooth() again", x.smooth(), 2);
        dueNumbers("smooth again", x, 10, 10, 7, 0, 0);
        check.due("evenness()", x.evenness(), 2);
        // What was set is smoothed away, the ends too.
        for (int p = 0; p <= 4; p++) {
            check.due("set(" + p + ",1)", x.set(p, 1), true);
        }
        check.due("smooth()", x.smooth(), 2);
        dueNumbers("smooth", x, 10, 10, 7, 0, 0);
        check.due("table(1,100)", x.table(1, 100), true);
        check.due("set(1,50)", x.set(1, 50), true);
        check.due("smooth()", x.smooth(), 0);
        dueNumbers("1 100", x, 100, 0);
        // 24 7, 20 15 and 25 0 are all on 25: at 1 of 4 24 7 is the one that is nearest (24 and 21).
        check.due("table(4,25)", x.table(4, 25), true);
        check.due("smooth()", x.smooth(), 23);
        dueNumbers("4 25", x, 25, 24, 18, 7, 0);
        check.due("table(8,25)", x.table(8, 25), true);
        check.due("smooth()", x.smooth(), 23);
        // 1 of 8: 24 and 49 are 25 apart, 25 and 0 too: the greater x. 2 of 8: 48 and 42. 3 of 8: 60 and 75.
        dueNumbers("8 25", x, 25, 25, 24, 20, 18, 15, 7, 0, 0);
    }

    /** Half way both are alike; of two that are as near the greater one. */
    private static void promise23Middle() {
        RampDriver x = new RampDriver();
        check.due("table(2,5)", x.table(2, 5), true);
        check.due("3 and 4 are as near: smooth()", x.smooth(), 7);
        dueNumbers("2 5", x, 5, 4, 0);
        check.due("table(2,29)", x.table(2, 29), true);
        check.due("20 and 21 are as near: smooth()", x.smooth(), 41);
        dueNumbers("2 29", x, 29, 21, 0);
        check.due("table(2,1)", x.table(2, 1), true);
        check.due("0 and 1 are as near: smooth()", x.smooth(), 1);
        dueNumbers("2 1", x, 1, 1, 0);
        check.due("table(2,100)", x.table(2, 100), true);
        check.due("smooth()", x.smooth(), 82);
        dueNumbers("2 100", x, 100, 71, 0);
    }

    private static void promise23Nearest() {
        RampDriver x = new RampDriver();
        check.due("table(4,1)", x.table(4, 1), true);
        check.due("smooth()", x.smooth(), 1);
        dueNumbers("4 1", x, 1, 1, 1, 0, 0);
        check.due("table(4,5)", x.table(4, 5), true);
        // 4 3 is 4 and 9, 5 0 is 5 and 0: both are 5 apart, the greater x is 5.
        check.due("smooth()", x.smooth(), 7);
        dueNumbers("4 5", x, 5, 5, 4, 0, 0);
        check.due("table(8,5)", x.table(8, 5), true);
        check.due("smooth()", x.smooth(), 7);
        // 1: 5 apart by 5 0, 17 by 4 3. 2: 10 by either. 3: 15 by 5 0, 3 by 4 3.
        dueNumbers("8 5", x, 5, 5, 5, 4, 4, 3, 0, 0, 0);
    }

    /** Every n and every level beside the plain model. */
    private static void promise23All() {
        for (int n = 1; n <= 8; n *= 2) {
            for (int level = 1; level <= 100; level++) {
                RampDriver x = new RampDriver();
                Plain model = new Plain();
                String told = "table(" + n + "," + level + ") ";
                check.due(told, x.table(n, level), model.table(n, level));
                check.due(told + "evenness()", x.evenness(), model.evenness());
                check.due(told + "smooth()", x.smooth(), model.smooth());
                for (int p = 0; p < 4 * n; p++) {
                    check.due(told + "current(" + p + ",0)", x.current(p, 0), model.current(p, 0));
                    check.due(told + "current(" + p + ",1)", x.current(p, 1), model.current(p, 1));
                }
            }
        }
    }

    /** The currents may be told and asked while a MOVE goes on. */
    private static void inMove() {
        RampDriver x = new RampDriver();
        check.due("move(6,0,0)", x.move(6, 0, 0), 5);
        check.due("table(4,20) in a MOVE", x.table(4, 20), true);
        check.due("set(1,20) in a MOVE", x.set(1, 20), true);
        dueNumbers("in a MOVE", x, 20, 20, 10, 5, 0);
        check.due("smooth() in a MOVE", x.smooth(), 8);
        check.due("tick(9)", x.tick(9), 5);
    }
}
