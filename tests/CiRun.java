import java.io.IOException;

/** .ci/run in small projects: what each of them holds, and whether it is refused. */
public final class CiRun {
    private static final String CLASS = "src/main/java/RampDriver.java";
    private static final String OWN = "tests/Own.java";
    private static final String SECOND = "tests/Second.java";
    private static final String SHARED = "../shared/tests/Shared.java";
    private static final String HELP = "tests/support/Help.java";

    private static final String PASSES = "";
    private static final String ENDS_WITH_1 = "System.exit(1);";
    private static final String THROWS = "throw new IllegalStateException();";
    private static final String DOES_NOT_COMPILE = "int none = true;";
    private static final String USES_THE_CLASS = "System.exit(RampDriver.ONE == 1 ? 0 : 1);";
    private static final String USES_THE_HELP = "System.exit(Help.ONE == 1 ? 0 : 1);";

    private static final Check check = new Check("CiRun");

    private final String what;
    private final SmallProject project;

    /** A project with two tests of its own and a shared one, that all pass. */
    private CiRun(String what) throws IOException {
        this.what = what;
        project = new SmallProject("ci");
        project.copy(".ci/run");
        project.write(CLASS, "public final class RampDriver {\n    public static final int ONE = 1;\n}\n");
        project.write(HELP, "final class Help {\n    static final int ONE = 1;\n}\n");
        test(OWN, USES_THE_HELP);
        test(SECOND, PASSES);
        test(SHARED, USES_THE_CLASS);
    }

    public static void main(String[] args) throws IOException {
        passes();
        failsForOneTest();
        failsForWhatDoesNotCompile();
        failsForNoTests();
        check.end();
    }

    private static void passes() throws IOException {
        CiRun all = new CiRun("all tests pass");
        SmallProject.Ended ended = all.project.run(".ci/run");
        check.due(all.what, ended.code(), 0);
        for (String path : new String[] {OWN, SECOND, SHARED}) {
            check.due(path + " is told as passed", ended.printed().contains("passed: " + path + "\n"), true);
        }
        check.due("all are counted", ended.printed().endsWith("2 tests of the project and 1 shared ones ran\n"), true);
        check.due("from another folder", all.project.runFrom("../shared", "../main/.ci/run").code(), 0);
    }

    private static void failsForOneTest() throws IOException {
        for (String path : new String[] {OWN, SECOND, SHARED}) {
            for (String body : new String[] {ENDS_WITH_1, THROWS, DOES_NOT_COMPILE}) {
                CiRun one = new CiRun(path + " with " + body);
                one.test(path, body);
                one.dueRefused("FAILED: " + path);
            }
        }
    }

    private static void failsForWhatDoesNotCompile() throws IOException {
        CiRun noClass = new CiRun("the class does not compile");
        noClass.project.write(CLASS, "public final class RampDriver {");
        noClass.dueRefused("FAILED: " + SHARED);
        CiRun helped = new CiRun("a shared test is compiled with the class alone");
        helped.test(SHARED, USES_THE_HELP);
        helped.dueRefused("FAILED: " + SHARED);
    }

    private static void failsForNoTests() throws IOException {
        CiRun noOwn = new CiRun("no test of the project's own");
        noOwn.project.delete(OWN);
        noOwn.project.delete(SECOND);
        noOwn.dueRefused("FAILED: no test was found");
        CiRun noShared = new CiRun("no shared test");
        noShared.project.delete(SHARED);
        noShared.dueRefused("FAILED: no test was found");
    }

    private void test(String path, String body) throws IOException {
        String name = path.substring(path.lastIndexOf('/') + 1, path.lastIndexOf('.'));
        project.write(path, "public final class " + name + " {\n    public static void main(String[] args) {\n        "
                + body + "\n    }\n}\n");
    }

    private void dueRefused(String said) throws IOException {
        SmallProject.Ended ended = project.run(".ci/run");
        check.due(what + ": .ci/run ends with", ended.code(), 1);
        check.due(what + ": it is told", ended.printed().contains(said), true);
    }
}
