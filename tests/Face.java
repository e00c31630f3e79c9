import java.io.IOException;
import java.lang.reflect.Constructor;
import java.lang.reflect.Field;
import java.lang.reflect.Method;
import java.lang.reflect.Modifier;
import java.nio.file.Files;
import java.nio.file.Path;
import java.util.List;
import java.util.Set;
import java.util.TreeSet;
import java.util.regex.Matcher;
import java.util.regex.Pattern;

/** The document's face, no more and no less, and what of LANGUAGE.md can be seen from outside or in the text. */
public final class Face {
    private static final Set<String> FACE = new TreeSet<>(List.of("boolean limits(int,int,int)", "boolean bad(int,boolean)",
            "boolean pull(int,int)", "boolean load(int,int)", "boolean only(boolean)", "int ramp(int)", "int speed(int,int)",
            "int slowing(int,int,int)", "int move(int,int,int)", "int tick(int)", "int stop()",
            "int place(int,boolean) throws java.util.NoSuchElementException", "int state(int)", "boolean at(int,int)", "int on(int)",
            "int home(int)", "boolean table(int,int)", "boolean set(int,int)",
            "int current(int,int) throws java.util.NoSuchElementException", "int miss(int)", "int evenness()", "int smooth()"));

    private static final Path SOURCE = Path.of("src/main/java/RampDriver.java");

    private static final int MOST_CLASSES = 12;
    private static final int MOST_FIELDS = 20;
    private static final int MOST_PARAMETERS = 7;

    private static final Check check = new Check("Face");

    public static void main(String[] args) throws IOException {
        publicClass();
        methods();
        fields(RampDriver.class);
        insides();
        text(Files.readString(SOURCE));
        check.end();
    }

    private static void dueTrue(String what, boolean is) {
        check.due(what, is, true);
    }

    private static void publicClass() {
        Class<?> face = RampDriver.class;
        check.due("public and final", face.getModifiers(), Modifier.PUBLIC | Modifier.FINAL);
        dueTrue("no package", face.getPackageName().isEmpty());
        dueTrue("nothing is extended", face.getSuperclass() == Object.class && face.getInterfaces().length == 0);
        Constructor<?>[] made = face.getDeclaredConstructors();
        check.due("constructors", made.length, 1);
        check.due("the constructor's parameters", made[0].getParameterCount(), 0);
        check.due("the constructor is public", made[0].getModifiers(), Modifier.PUBLIC);
    }

    private static void methods() {
        Set<String> found = new TreeSet<>();
        Set<String> names = new TreeSet<>();
        for (Method one : RampDriver.class.getDeclaredMethods()) {
            if (Modifier.isPrivate(one.getModifiers()) || one.isSynthetic()) {
                continue;
            }
            names.add(one.getName());
            found.add(signature(one));
        }
        check.dueText("the public methods", String.join("; ", found), String.join("; ", FACE));
        for (Method one : RampDriver.class.getDeclaredMethods()) {
            boolean isPrivate = Modifier.isPrivate(one.getModifiers());
            dueTrue("no private method is named " + one.getName(), !isPrivate || !names.contains(one.getName()));
        }
    }

    private static String signature(Method one) {
        StringBuilder told = new StringBuilder(one.getReturnType().getName()).append(' ').append(one.getName()).append('(');
        for (Class<?> type : one.getParameterTypes()) {
            told.append(told.charAt(told.length() - 1) == '(' ? "" : ",").append(type.getName());
        }
        told.append(')');
        for (Class<?> type : one.getExceptionTypes()) {
            told.append(" throws ").append(type.getName());
        }
        int more = one.getModifiers() & ~Modifier.PUBLIC;
        return more == 0 ? told.toString() : Modifier.toString(more) + " " + told;
    }

    private static void fields(Class<?> owner) {
        int own = 0;
        for (Field one : owner.getDeclaredFields()) {
            int is = one.getModifiers();
            String name = owner.getSimpleName() + "." + one.getName();
            if (Modifier.isStatic(is)) {
                dueTrue(name + " is final", Modifier.isFinal(is));
            } else {
                own++;
            }
            boolean isNone = owner == RampDriver.class && one.getName().equals("NONE");
            check.due(name + " is public", Modifier.isPublic(is), isNone);
            dueTrue(name + " is private", owner != RampDriver.class || isNone || Modifier.isPrivate(is));
        }
        dueTrue(owner.getSimpleName() + " has at most 20 fields", own <= MOST_FIELDS);
    }

    private static void insides() {
        check.due("NONE", RampDriver.NONE, -1);
        Class<?>[] inside = RampDriver.class.getDeclaredClasses();
        dueTrue("at most twelve classes", inside.length < MOST_CLASSES);
        for (Class<?> one : inside) {
            int is = one.getModifiers();
            dueTrue(one.getSimpleName() + " is static", Modifier.isStatic(is));
            dueTrue(one.getSimpleName() + " is not seen from outside", !Modifier.isPublic(is) && !Modifier.isProtected(is));
            fields(one);
            for (Method method : one.getDeclaredMethods()) {
                dueTrue(method + " has at most seven parameters", method.getParameterCount() <= MOST_PARAMETERS);
            }
        }
    }

    private static void text(String source) {
        String code = source.replaceAll("(?s)/\\*.*?\\*/", "").replaceAll("//[^\n]*", "");
        for (String word : List.of("package", "catch", "finally", "synchronized", "assert", "Object", "hashCode", "toString")) {
            dueTrue("the text is without " + word, !Pattern.compile("\\b" + word + "\\b").matcher(code).find());
        }
        dueTrue("no lambda, no method reference", !code.contains("->") && !code.contains("::"));
        dueTrue("no Math but what the rules list", !Pattern.compile("\\w+Exact\\b").matcher(code).find());
        for (String line : code.split("\n")) {
            boolean isListed = line.equals("import java.util.Arrays;") || line.equals("import java.util.NoSuchElementException;");
            dueTrue(line, !line.startsWith("import") || isListed);
        }
        Matcher thrown = Pattern.compile("throw [^;]*;").matcher(code);
        while (thrown.find()) {
            check.dueText("what is thrown", thrown.group(), "throw new NoSuchElementException();");
        }
    }
}
