import java.util.ArrayList;
import java.util.HashMap;
import java.util.List;
import java.util.Map;

/** Takes the document a sentence at a time: the runs that it asks for, its bounds, what it refuses. */
final class Sentences {
    private static final int CALLS = 512;

    private final Check check;
    private final Map<String, List<String>> answersOfSituations = new HashMap<>();
    private String words = "";

    Sentences(String what) {
        check = new Check(what);
    }

    /** The sentence that the runs behind it are of. */
    void of(String newWords) {
        words = newWords;
    }

    void end() {
        check.end();
    }

    /** A run on a new object; the plain model must find the same, or the run itself was written wrong. */
    void due(String script) {
        String[] steps = Script.callsOf(script);
        dueSteps("", new RampDriver(), steps);
        dueSteps("the model: ", new Plain(), steps);
    }

    /** A run on a new object, each answer of it as the plain model finds it. */
    void dueAsModel(String calls) {
        Plain model = new Plain();
        StringBuilder script = new StringBuilder();
        for (String call : Script.callsOf(calls)) {
            script.append(call).append('=').append(Script.make(model, call)).append(' ');
        }
        dueSteps("", new RampDriver(), Script.callsOf(script.toString()));
    }

    private void dueSteps(String who, Object driver, String[] steps) {
        StringBuilder told = new StringBuilder();
        for (String step : steps) {
            String call = Script.callOf(step);
            String want = Script.answerOf(step);
            told.append(call).append(' ');
            String got = Script.make(driver, call);
            if (want != null) {
                dueAnswer(who + told, got, want);
            }
        }
        dueTrue("a run has at most 512 calls", steps.length <= CALLS);
    }

    private void dueAnswer(String told, String got, String want) {
        check.dueText("[" + words + "] " + told, got, want);
    }

    private void dueTrue(String told, boolean is) {
        dueAnswer(told, String.valueOf(is), "true");
    }

    /** The last numbers within for the # of the call, and those outside, which are refused behind what is ahead. */
    void boundsThere(String ahead, String call, int least, String atLeast, int most, String atMost, String refusal) {
        due(ahead + " " + put(call, least) + "=" + atLeast);
        due(ahead + " " + put(call, most) + "=" + atMost);
        Situations.Situation there = new Situations.Situation(ahead.isBlank() ? "a new object" : ahead, ahead, false);
        for (int near : new int[] {least - 1, most + 1}) {
            due(ahead + " " + put(call, near) + "=" + refusal);
            refused(there, put(call, near), refusal, true);
        }
        for (int far : farFrom(least, most)) {
            due(ahead + " " + put(call, far) + "=" + refusal);
            refused(there, put(call, far), refusal, false);
        }
    }

    /** The same for bounds that stand in the document: what is outside is refused in any situation. */
    void bounds(String ahead, String call, int least, String atLeast, int most, String atMost, String refusal) {
        boundsThere(ahead, call, least, atLeast, most, atMost, refusal);
        refusedAnywhere(put(call, least - 1), refusal, true);
        refusedAnywhere(put(call, most + 1), refusal, true);
        for (int far : farFrom(least, most)) {
            refusedAnywhere(put(call, far), refusal, false);
        }
    }

    private static String put(String call, int number) {
        return call.replace("#", Integer.toString(number));
    }

    /** The least and the greatest int, the other sign, and numbers that are within if bits are lost. */
    private static int[] farFrom(int least, int most) {
        return new int[] {Integer.MIN_VALUE, Integer.MIN_VALUE + most, Integer.MAX_VALUE, most < 1 ? 1 << 30 : -2 * most - 1,
            (1 << 16) + most, most - (1 << 16)};
    }

    void refusedAnywhere(String call, String refusal, boolean askAll) {
        for (Situations.Situation one : Situations.ALL) {
            refused(one, call, refusal, askAll);
        }
    }

    void refused(Situations.Situation where, String call, String refusal, boolean askAll) {
        for (List<String> asked : Situations.questions(askAll)) {
            RampDriver x = new RampDriver();
            Script.run(x, where.calls());
            dueAnswer(where.name() + ": " + call, Script.make(x, call), refusal);
            List<String> want = answersOf(where, asked);
            for (int i = 0; i < asked.size(); i++) {
                dueAnswer(where.name() + ": behind " + call + ": " + asked.get(i), Script.make(x, asked.get(i)), want.get(i));
            }
        }
    }

    /** What the same object answers that was not asked for what is refused. */
    private List<String> answersOf(Situations.Situation where, List<String> asked) {
        String key = where.name() + asked.hashCode();
        List<String> answers = answersOfSituations.get(key);
        if (answers == null) {
            RampDriver x = new RampDriver();
            for (String step : Script.callsOf(where.calls())) {
                dueAnswer(where.name() + ": " + step, Script.make(x, Script.callOf(step)), Script.answerOf(step));
            }
            answers = new ArrayList<>();
            for (String call : asked) {
                answers.add(Script.make(x, call));
            }
            dueTrue("a run has at most 512 calls", asked.size() + Script.callsOf(where.calls()).length < CALLS);
            answersOfSituations.put(key, answers);
        }
        return answers;
    }

    /** What a MOVE alone refuses: wherever none goes on the call answers otherwise. */
    void refusedInMove(String call, String refusal) {
        for (Situations.Situation one : Situations.ALL) {
            if (one.inMove()) {
                refused(one, call, refusal, true);
            } else {
                RampDriver x = new RampDriver();
                Script.run(x, one.calls());
                dueTrue(one.name() + " does not refuse " + call, !Script.make(x, call).equals(refusal));
            }
        }
    }

    /** What is refused wherever no MOVE goes on. */
    void refusedOutOfMove(String call, String refusal) {
        for (Situations.Situation one : Situations.ALL) {
            if (!one.inMove()) {
                refused(one, call, refusal, true);
            }
        }
    }
}
