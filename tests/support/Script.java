import java.lang.reflect.InvocationTargetException;
import java.lang.reflect.Method;
import java.util.HashMap;
import java.util.Map;
import java.util.NoSuchElementException;

/**
 * Calls written as the document writes them, "limits(6,2,4)=true place(3,true)=throws", and made to a
 * RampDriver or to the plain model. MIN and MAX are the least and the greatest int.
 */
final class Script {
    static final String THROWS = "throws";

    private static final Map<String, Method> FACE = new HashMap<>();

    static {
        for (Method one : RampDriver.class.getDeclaredMethods()) {
            if (java.lang.reflect.Modifier.isPublic(one.getModifiers())) {
                FACE.put(one.getName(), one);
            }
        }
    }

    private Script() {
    }

    /** The calls of a script, each with "=answer" behind it or without. */
    static String[] callsOf(String script) {
        return script.isBlank() ? new String[0] : script.trim().split("\\s+");
    }

    static String callOf(String step) {
        int is = step.indexOf('=');
        return is < 0 ? step : step.substring(0, is);
    }

    /** What the script says that the call answers; null if it does not say. */
    static String answerOf(String step) {
        int is = step.indexOf('=');
        return is < 0 ? null : step.substring(is + 1);
    }

    static void run(Object driver, String script) {
        for (String step : callsOf(script)) {
            make(driver, callOf(step));
        }
    }

    /** Makes one call: its answer, or THROWS for just the exception that the document names. */
    static String make(Object driver, String call) {
        int open = call.indexOf('(');
        Method told = FACE.get(call.substring(0, open));
        String[] words = call.substring(open + 1, call.length() - 1).split(",");
        Class<?>[] types = told.getParameterTypes();
        Object[] arguments = new Object[types.length];
        for (int i = 0; i < types.length; i++) {
            arguments[i] = types[i] == boolean.class ? (Object) Boolean.valueOf(words[i]) : (Object) numberOf(words[i]);
        }
        return made(driver, told, arguments);
    }

    private static Integer numberOf(String word) {
        if (word.equals("MIN")) {
            return Integer.MIN_VALUE;
        }
        return word.equals("MAX") ? Integer.valueOf(Integer.MAX_VALUE) : Integer.valueOf(word);
    }

    private static String made(Object driver, Method told, Object[] arguments) {
        try {
            Method own = driver.getClass().getDeclaredMethod(told.getName(), told.getParameterTypes());
            return String.valueOf(own.invoke(driver, arguments));
        } catch (InvocationTargetException e) {
            boolean isNamed = e.getCause().getClass() == NoSuchElementException.class;
            return isNamed ? THROWS : "throws." + e.getCause();
        } catch (ReflectiveOperationException e) {
            throw new IllegalStateException(e);
        }
    }
}
