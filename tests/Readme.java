import java.io.IOException;
import java.lang.reflect.Method;
import java.lang.reflect.Modifier;
import java.nio.file.Files;
import java.nio.file.Path;
import java.util.ArrayList;
import java.util.List;
import java.util.Set;
import java.util.TreeSet;
import java.util.regex.Matcher;
import java.util.regex.Pattern;
import java.util.stream.Stream;

/**
 * README.md is followed from its top to its end, in a folder of its own: programs are saved, commands are run,
 * what they print is compared, and each call is compiled as it stands and asked for the answer behind it.
 */
public final class Readme {
    private static final Path PAGE = Path.of("README.md");

    private static final Pattern PROGRAM = Pattern.compile("public class (\\w+)");
    private static final Pattern NEW = Pattern.compile("RampDriver driver = new RampDriver\\(\\);");
    /** A call, maybe kept under a name, and behind it the answer, with words behind a colon or without. */
    private static final Pattern CALL = Pattern.compile(
            "(?:\\w+ \\w+ = )?(driver\\.(\\w+)\\(.*?); +// (-?\\d+|true|false|throws NoSuchElementException)(?:: .+)?");
    private static final Pattern TEST = Pattern.compile("tests/(\\w+)\\.java");

    /** A test for the small project's shared ones: the true ones are run where README.md is not looked at. */
    private static final String SHARED = """
            public final class Small {
                public static void main(String[] args) {
                    System.exit(new RampDriver().ramp(2) == 3 ? 0 : 1);
                }
            }
            """;

    /** What stands in README.md between two lines of three backquotes. */
    private record Block(String kind, int line, List<String> lines) {
        String text() {
            return String.join("\n", lines) + "\n";
        }
    }

    private static final Check check = new Check("Readme");

    private final SmallProject project = new SmallProject("readme");
    private final List<Block> calls = new ArrayList<>();
    private String printed = "";

    private Readme() throws IOException {
    }

    public static void main(String[] args) throws IOException {
        List<String> page = Files.readAllLines(PAGE);
        new Readme().follow(blocksOf(page));
        table(page);
        check.end();
    }

    private static List<Block> blocksOf(List<String> page) {
        List<Block> blocks = new ArrayList<>();
        Block open = null;
        for (int i = 0; i < page.size(); i++) {
            String line = page.get(i);
            if (open == null && line.startsWith("```")) {
                open = new Block(line.substring(3), i + 1, new ArrayList<>());
            } else if (open != null && line.equals("```")) {
                blocks.add(open);
                open = null;
            } else if (open != null) {
                open.lines().add(line);
            }
        }
        check.due("a block of README.md has no end", open != null, false);
        return blocks;
    }

    private void follow(List<Block> blocks) throws IOException {
        fill(blocks);
        Set<String> kinds = new TreeSet<>();
        for (Block one : blocks) {
            kinds.add(one.kind());
            follow(one);
        }
        check.dueText("the kinds of blocks in README.md", kinds.toString(), "[java, sh, text]");
        askAll();
        eachMethodIsShown();
    }

    /** The small project has the tests that README.md's commands name; all of them would run this one again. */
    private void fill(List<Block> blocks) throws IOException {
        project.copy("src");
        project.copy(".ci/run");
        project.copy("tests/support");
        project.write("../shared/tests/Small.java", SHARED);
        Set<String> named = new TreeSet<>();
        for (Block one : blocks) {
            Matcher test = TEST.matcher(one.kind().equals("sh") ? one.text() : "");
            while (test.find()) {
                named.add(test.group());
            }
        }
        check.due("README.md's commands name a test", named.isEmpty(), false);
        for (String test : named) {
            project.copy(test);
        }
    }

    private void follow(Block one) throws IOException {
        switch (one.kind()) {
            case "java":
                Matcher program = PROGRAM.matcher(one.text());
                if (program.find()) {
                    project.write(program.group(1) + ".java", one.text());
                } else {
                    calls.add(one);
                }
                break;
            case "sh":
                SmallProject.Ended ended = project.run(one.text());
                printed = ended.printed();
                check.dueText(at(one.line()) + " ends with", ended.code() + (ended.code() == 0 ? "" : ": " + printed), "0");
                break;
            default:
                check.dueText(at(one.line()) + " printed", printed, one.text());
        }
    }

    private static String at(int line) {
        return "README.md line " + line;
    }

    /** One program holds each block as it stands, to be compiled, and once more so that each answer is printed. */
    private void askAll() throws IOException {
        List<String> asked = new ArrayList<>();
        List<String> due = new ArrayList<>();
        StringBuilder source = new StringBuilder("import java.util.NoSuchElementException;\n\nclass Shown {\n");
        StringBuilder main = new StringBuilder("    public static void main(String[] args) {\n");
        for (int i = 0; i < calls.size(); i++) {
            source.append("    static void asShown").append(i).append("() {\n").append(calls.get(i).text()).append("    }\n");
            source.append("    static void asked").append(i).append("() {\n");
            askBlock(calls.get(i), source, asked, due);
            source.append("    }\n");
            main.append("        asked").append(i).append("();\n");
        }
        project.write("Shown.java", source.append(main).append("    }\n}\n").toString());
        SmallProject.Ended ended = project.run("javac -sourcepath src/main/java -d build/shown Shown.java\njava -cp build/shown Shown");
        check.dueText("README.md's calls compile", ended.code() == 0 ? "" : ended.printed(), "");
        String[] answers = ended.printed().split("\n");
        check.due("answers of README.md's calls", answers.length, due.size());
        for (int i = 0; i < answers.length && i < due.size(); i++) {
            check.dueText(asked.get(i), answers[i], due.get(i));
        }
    }

    private static void askBlock(Block block, StringBuilder source, List<String> asked, List<String> due) {
        for (int i = 0; i < block.lines().size(); i++) {
            String line = block.lines().get(i);
            String where = at(block.line() + 1 + i) + ": " + line;
            Matcher call = CALL.matcher(line);
            if (NEW.matcher(line).matches()) {
                check.due(where + " is the first line of its block", i, 0);
                source.append("        ").append(line).append('\n');
            } else if (call.matches()) {
                source.append("        try {\n            System.out.println(").append(call.group(1));
                source.append(");\n        } catch (NoSuchElementException e) {\n");
                source.append("            System.out.println(\"throws \" + e.getClass().getSimpleName());\n        }\n");
                asked.add(where);
                due.add(call.group(3));
            } else {
                check.dueText(where, "no call with its answer", "a call with its answer");
            }
        }
    }

    private void eachMethodIsShown() {
        Set<String> shown = new TreeSet<>();
        for (Block block : calls) {
            for (String line : block.lines()) {
                Matcher call = CALL.matcher(line);
                if (call.matches()) {
                    shown.add(call.group(2));
                }
            }
        }
        Set<String> face = new TreeSet<>();
        for (Method one : RampDriver.class.getDeclaredMethods()) {
            if (Modifier.isPublic(one.getModifiers())) {
                face.add(one.getName());
            }
        }
        check.dueText("the methods that README.md shows", shown.toString(), face.toString());
    }

    /** README.md's table has a row for each test, and for none that is not there. */
    private static void table(List<String> page) throws IOException {
        Set<String> told = new TreeSet<>();
        for (String line : page) {
            if (line.startsWith("| `tests/")) {
                told.add(line.substring(3, line.indexOf('`', 3)));
            }
        }
        Set<String> there = new TreeSet<>();
        try (Stream<Path> all = Files.list(Path.of("tests"))) {
            all.filter(Files::isRegularFile).forEach(one -> there.add("tests/" + one.getFileName()));
        }
        check.dueText("the tests in README.md's table", told.toString(), there.toString());
    }
}
