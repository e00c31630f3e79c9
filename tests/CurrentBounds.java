/** Terms 3 and promises 18 to 23, a sentence at a time: bounds, refusals, rounds that begin again, pairs alike. */
public final class CurrentBounds {
    private static final Sentences s = new Sentences("CurrentBounds");

    public static void main(String[] args) {
        partsOfAStep();
        levels();
        numbersAtFirst();
        numbersSet();
        rounds();
        roundsBeginAgain();
        currentsRefused();
        misses();
        evenness();
        smoothing();
        smoothingAlike();
        smoothingMiddle();
        inMove();
        s.end();
    }

    /** A(0) to A(n), of which the first quarter of a round shows all. */
    private static String numbers(int... answers) {
        StringBuilder script = new StringBuilder();
        int n = answers.length - 1;
        for (int p = 0; p < n; p++) {
            script.append("current(" + p + ",0)=" + answers[p] + " current(" + p + ",1)=" + answers[n - p] + " ");
        }
        return script + "miss(" + n + ")=" + missAt0(answers) + " miss(" + (n + 1) + ")=-1 ";
    }

    /** For A(0) or A(n) being L, as they are but where they are set. */
    private static int missAt0(int... answers) {
        int first = answers[0];
        int last = answers[answers.length - 1];
        int greater = Math.max(first, last);
        return first * first + last * last - greater * greater;
    }

    private static void partsOfAStep() {
        s.of("n (1, 2, 4, 8; 4 at first)");
        s.due("miss(4)=0 miss(5)=-1 current(4,0)=0 current(4,1)=10");
        s.due("table(1,10)=true " + numbers(10, 0) + "table(2,10)=true " + numbers(10, 5, 0) + "table(4,10)=true " + numbers(10, 7, 5, 2, 0)
                + "table(8,10)=true " + numbers(10, 8, 7, 6, 5, 3, 2, 1, 0));
        s.of("18: False: out of bounds (n)");
        s.bounds("", "table(#,10)", 1, "true", 8, "true", "false");
        for (int n : new int[] {-8, -4, -2, -1, 3, 5, 6, 7, 10, 12, 16, 32, 64}) {
            s.due("table(" + n + ",10)=false " + numbers(10, 7, 5, 2, 0));
            s.refusedAnywhere("table(" + n + ",10)", "false", false);
        }
        s.of("n is no longer that of the table ahead of it");
        s.due("table(8,10)=true table(2,10)=true set(3,1)=false miss(3)=-1 " + numbers(10, 5, 0) + "table(4,10)=true " + numbers(10, 7, 5, 2, 0));
    }

    private static void levels() {
        s.of("a level L (1 .. 100; 10)");
        s.due("current(0,0)=10 set(0,10)=true set(0,11)=false miss(0)=0");
        s.due("table(4,1)=true " + numbers(1, 0, 0, 0, 0) + "table(4,100)=true " + numbers(100, 75, 50, 25, 0));
        s.of("18: False: out of bounds (L)");
        for (int n = 1; n <= 8; n *= 2) {
            s.boundsThere("", "table(" + n + ",#)", 1, "true", 100, "true", "false");
        }
        s.bounds("", "table(4,#)", 1, "true", 100, "true", "false");
        s.due("table(3,0)=false table(3,101)=false table(MIN,MIN)=false table(MAX,MAX)=false table(0,0)=false " + numbers(10, 7, 5, 2, 0));
    }

    private static void numbersAtFirst() {
        s.of("A(p) is L times (n - p) by n, cut, at first");
        s.due(numbers(10, 7, 5, 2, 0));
        s.due("table(8,99)=true " + numbers(99, 86, 74, 61, 49, 37, 24, 12, 0) + "table(4,9)=true " + numbers(9, 6, 4, 2, 0) + "table(2,1)=true "
                + numbers(1, 0, 0) + "table(1,1)=true " + numbers(1, 0) + "table(8,7)=true " + numbers(7, 6, 5, 4, 3, 2, 1, 0, 0));
        s.of("18: n and L; all A as at first");
        s.due("set(0,3)=true set(1,3)=true set(2,3)=true set(3,3)=true set(4,3)=true table(4,10)=true " + numbers(10, 7, 5, 2, 0));
        s.due("smooth()=2 table(4,10)=true " + numbers(10, 7, 5, 2, 0) + "set(1,1)=true table(4,10)=true table(4,10)=true evenness()=50");
    }

    private static void numbersSet() {
        s.of("19: False: out of bounds (p is 0 .. n)");
        s.boundsThere("", "set(#,1)", 0, "true", 4, "true", "false");
        for (int n = 1; n <= 8; n *= 2) {
            s.boundsThere("table(" + n + ",20)=true", "set(#,20)", 0, "true", n, "true", "false");
        }
        s.refusedAnywhere("set(-1,1)", "false", true);
        s.refusedAnywhere("set(9,1)", "false", true);
        s.of("19: False: out of bounds (numbers, 0 .. L)");
        s.boundsThere("", "set(2,#)", 0, "true", 10, "true", "false");
        s.boundsThere("table(4,1)=true", "set(0,#)", 0, "true", 1, "true", "false");
        s.boundsThere("table(8,100)=true", "set(8,#)", 0, "true", 100, "true", "false");
        s.refusedAnywhere("set(0,-1)", "false", true);
        s.refusedAnywhere("set(0,101)", "false", true);
        s.of("19: A(p)");
        s.due("set(0,0)=true set(1,10)=true set(2,3)=true set(2,3)=true set(3,4)=true set(4,6)=true current(0,0)=0 current(0,1)=6 current(1,0)=10 "
                + "current(1,1)=4 current(2,0)=3 current(2,1)=3 current(3,0)=4 current(3,1)=10 current(4,0)=-6 current(4,1)=0");
        s.due("table(1,7)=true set(1,7)=true set(0,0)=true current(0,0)=0 current(0,1)=7 current(1,0)=-7 current(1,1)=0");
    }

    private static void rounds() {
        s.of("At p of a round: q 0: A(r), A(n - r); 1: -A(n - r), A(r); 2: -A(r), -A(n - r); 3: A(n - r), -A(r)");
        // A is 9 8 5 2 1: no two are alike, so that none can stand for another.
        int[] first = {9, 8, 5, 2, -1, -2, -5, -8, -9, -8, -5, -2, 1, 2, 5, 8};
        int[] second = {1, 2, 5, 8, 9, 8, 5, 2, -1, -2, -5, -8, -9, -8, -5, -2};
        StringBuilder script = new StringBuilder("set(0,9)=true set(1,8)=true set(4,1)=true ");
        for (int p = 0; p < 64; p++) {
            script.append("current(" + p + ",0)=" + first[p % 16] + " current(" + p + ",1)=" + second[p % 16] + " ");
        }
        s.due(script.toString());
        s.due("table(1,7)=true set(1,3)=true current(0,0)=7 current(0,1)=3 current(1,0)=-3 current(1,1)=7 current(2,0)=-7 current(2,1)=-3 current(3,0)=3 "
                + "current(3,1)=-7 current(4,0)=7 current(4,1)=3");
        s.due("table(2,9)=true current(1,0)=4 current(1,1)=4 current(3,0)=-4 current(3,1)=4 current(5,0)=-4 current(5,1)=-4 current(7,0)=4 current(7,1)=-4 "
                + "current(8,0)=9 current(8,1)=0");
    }

    private static void roundsBeginAgain() {
        s.of("q = p by n, cut, modulo 4; r = p modulo n: a round begins again");
        // 1000 is 250 times 4: q 2; 999 is 249 times 4 and 3: q 1. 999 is 124 times 8 and 7: q 0.
        s.due("current(15,0)=7 current(15,1)=-2 current(16,0)=10 current(16,1)=0 current(17,0)=7 current(999,0)=-7 current(999,1)=2 current(1000,0)=-10 "
                + "current(1000,1)=0");
        s.due("table(1,7)=true current(3,1)=-7 current(4,0)=7 current(999,0)=0 current(999,1)=-7 current(1000,0)=7 current(1000,1)=0");
        s.due("table(2,8)=true current(7,0)=4 current(8,0)=8 current(999,0)=4 current(999,1)=-4 current(1000,0)=8 current(1000,1)=0");
        s.due("table(8,100)=true current(31,0)=87 current(31,1)=-12 current(32,0)=100 current(32,1)=0 current(999,0)=12 current(999,1)=87 current(1000,0)=0 "
                + "current(1000,1)=100");
    }

    private static void currentsRefused() {
        s.of("20: NoSuchElementException: no such p");
        s.bounds("", "current(#,0)", 0, "10", 1000, "-10", "throws");
        s.bounds("", "current(#,1)", 0, "0", 1000, "0", "throws");
        s.of("20: NoSuchElementException: which");
        s.bounds("", "current(0,#)", 0, "10", 1, "0", "throws");
        s.bounds("", "current(1000,#)", 0, "-10", 1, "0", "throws");
        s.due("current(-1,-1)=throws current(1001,2)=throws current(MIN,0)=throws current(MAX,1)=throws current(0,MIN)=throws current(0,MAX)=throws");
    }

    private static void misses() {
        s.of("MISS of p: how far A(p) squared and A(n - p) squared together are from L squared");
        s.due("miss(0)=0 miss(1)=47 miss(2)=50 miss(3)=47 miss(4)=0");
        s.of("MISS: (without sign)");
        s.due("set(1,10)=true miss(1)=4 miss(3)=4 set(2,10)=true miss(2)=100 set(2,0)=true miss(2)=100 set(4,10)=true miss(0)=100 set(0,0)=true miss(0)=0 "
                + "set(4,0)=true miss(4)=100");
        s.due("table(8,100)=true set(0,100)=true set(8,100)=true miss(0)=10000 miss(8)=10000 set(0,0)=true set(8,0)=true miss(0)=10000 miss(8)=10000");
        s.of("21: NONE: no such one");
        for (int n = 1; n <= 8; n *= 2) {
            s.boundsThere("table(" + n + ",20)=true", "miss(#)", 0, "0", n, "0", "-1");
        }
        s.refusedAnywhere("miss(-1)", "-1", true);
        s.refusedAnywhere("miss(9)", "-1", true);
    }

    private static void evenness() {
        s.of("EVENNESS: the greatest MISS");
        s.due("evenness()=50 set(2,7)=true evenness()=47 set(1,10)=true evenness()=4 set(2,10)=true evenness()=100");
        s.of("EVENNESS: at the ends too, and below L squared as above");
        s.due("table(1,9)=true evenness()=0 set(1,9)=true evenness()=81 set(0,0)=true evenness()=0 set(1,1)=true evenness()=80");
        s.due("table(2,3)=true evenness()=7 table(8,100)=true evenness()=5000 table(4,1)=true evenness()=1");
    }

    private static void smoothing() {
        s.of("23: SMOOTHING: EVENNESS then");
        s.due("evenness()=50 smooth()=2 evenness()=2 smooth()=2 " + numbers(10, 10, 7, 0, 0));
        s.due("table(1,100)=true set(1,50)=true smooth()=0 evenness()=0 " + numbers(100, 0));
        s.of("SMOOTHING does not hang on what was set");
        s.due("set(0,1)=true set(1,1)=true set(2,1)=true set(3,9)=true set(4,10)=true smooth()=2 " + numbers(10, 10, 7, 0, 0));
        s.of("for which x squared and y squared together are nearest to L squared");
        // 12 5 is on 13, and 9 9 is 162 of 169; of 9 3 0 is on 3, and 2 2 is 8.
        s.due("table(4,13)=true smooth()=7 " + numbers(13, 12, 9, 5, 0));
        s.due("table(4,3)=true smooth()=1 " + numbers(3, 3, 2, 0, 0) + "table(4,2)=true smooth()=2 " + numbers(2, 2, 1, 0, 0));
        s.of("for which x times p and y times (n - p) are nearest to one another");
        // 25 0, 24 7, 20 15 are all on 25; of 24 7 it is 24 and 21, of 20 15 20 and 45; 48 and 42 at 2 of 8, and 60 and 75 at 3 of 8.
        s.due("table(4,25)=true smooth()=23 " + numbers(25, 24, 18, 7, 0) + "table(8,25)=true smooth()=23 " + numbers(25, 25, 24, 20, 18, 15, 7, 0, 0));
    }

    private static void smoothingAlike() {
        s.of("of several the greater x");
        // At 1 of 4 both 10 0 and 8 6 are on 10, and 10 apart: 10 and 0, 8 and 18. So are 5 0 and 4 3 on 5: 5 and 0, 4 and 9.
        s.due("smooth()=2 " + numbers(10, 10, 7, 0, 0) + "table(4,5)=true smooth()=7 " + numbers(5, 5, 4, 0, 0));
        // At 1 of 8 25 0 and 24 7 are 25 apart; at 2 of 8 5 0 is 10, and 4 3 is 8 and 18.
        s.due("table(8,25)=true smooth()=23 current(1,0)=25 current(1,1)=0 table(8,5)=true smooth()=7 " + numbers(5, 5, 5, 4, 4, 3, 0, 0, 0));
        s.of("at p = 0: x is L and y is 0");
        for (int n = 1; n <= 8; n *= 2) {
            s.due("table(" + n + ",65)=true set(0,33)=true set(" + n + ",56)=true smooth()=" + (n == 1 ? 0 : 7) + " current(0,0)=65 current(0,1)=0");
        }
    }

    private static void smoothingMiddle() {
        s.of("both alike, if 2 p is n");
        s.due("table(2,3)=true smooth()=1 " + numbers(3, 2, 0) + "table(2,100)=true smooth()=82 " + numbers(100, 71, 0) + "table(2,7)=true smooth()=1 "
                + numbers(7, 5, 0));
        s.of("both alike: of two as near the greater");
        // 3 3 is 18 and 4 4 is 32, 7 from 25; 20 20 is 800 and 21 21 882, 41 from 841; 0 and 2 are 1 from 1.
        s.due("table(2,5)=true smooth()=7 " + numbers(5, 4, 0) + "table(2,29)=true smooth()=41 " + numbers(29, 21, 0) + "table(2,1)=true smooth()=1 "
                + numbers(1, 1, 0) + "table(4,1)=true smooth()=1 " + numbers(1, 1, 1, 0, 0));
    }

    private static void inMove() {
        s.of("A MOVE refuses no call of promises 18 to 23");
        for (Situations.Situation one : Situations.ALL) {
            s.due(one.calls() + " table(4,20)=true set(1,20)=true " + numbers(20, 20, 10, 5, 0) + "evenness()=200 smooth()=8 " + numbers(20, 20, 14, 0, 0));
        }
    }
}
