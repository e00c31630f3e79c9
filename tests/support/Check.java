import java.util.NoSuchElementException;

/** Counts and prints the answers that are not the ones that are due. */
final class Check {
    /** Stands for an answer that is a NoSuchElementException. */
    static final long THROWS = Long.MIN_VALUE;

    private static final int MOST_SHOWN = 40;

    interface Call {
        long answer();
    }

    private final String what;
    private int asked = 0;
    private int wrong = 0;

    Check(String what) {
        this.what = what;
    }

    void due(String call, long got, long want) {
        dueText(call, shown(got), shown(want));
    }

    void due(String call, boolean got, boolean want) {
        due(call, got ? 1 : 0, want ? 1 : 0);
    }

    void dueText(String call, String got, String want) {
        asked++;
        if (!got.equals(want)) {
            wrong++;
            if (wrong <= MOST_SHOWN) {
                System.out.println(call + " answered " + got + ", due is " + want);
            }
        }
    }

    void dueThrow(String call, Call made) {
        due(call, answerOf(made), THROWS);
    }

    static long answerOf(Call made) {
        try {
            return made.answer();
        } catch (NoSuchElementException e) {
            // A subclass (InputMismatchException, say) would not be what the document names.
            if (e.getClass() != NoSuchElementException.class) {
                throw new IllegalStateException(e);
            }
            return THROWS;
        }
    }

    boolean isAllDue() {
        return wrong == 0;
    }

    private static String shown(long answer) {
        return answer == THROWS ? "throws.NoSuchElementException" : Long.toString(answer);
    }

    void end() {
        System.out.println(what + ": " + asked + " answers, " + wrong + " not as due");
        if (wrong != 0 || asked == 0) {
            System.exit(1);
        }
    }
}
