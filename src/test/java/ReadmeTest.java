import java.io.IOException;
import java.lang.reflect.Method;
import java.lang.reflect.Modifier;
import java.nio.file.Files;
import java.nio.file.Path;
import java.util.ArrayList;
import java.util.List;
import java.util.regex.Matcher;
import java.util.regex.Pattern;
import java.util.stream.Stream;

/** README.md names every call, finding and test; its example answers and its commands work as written. */
public final class ReadmeTest {
    private static final String[] FINDINGS = {"BEYOND", "FULL", "KIND", "NONE", "STATE", "MISSING", "SIZE"};
    /** A statement of the example whose answer is told behind it. */
    private static final Pattern TOLD = Pattern.compile("^(?:int (\\w+) = )?(x\\.\\w+\\(.*\\)); *// (-?\\d+):.*$");
    private static final String ALL_TESTS = ".ci/run";

    private static int wrong = 0;

    private static void hold(boolean holds, String what) {
        if (!holds) {
            wrong++;
            System.out.println(what);
        }
    }

    public static void main(String[] args) throws IOException, InterruptedException {
        String readme = Files.readString(Path.of("README.md"));
        namesEveryCall(readme);
        tellsEveryFinding(readme);
        namesEveryTest(readme);
        Path room = Files.createTempDirectory("readme");
        try {
            exampleAnswersAsTold(readme, room);
            commandsWork(readme, room);
        } finally {
            remove(room);
        }
        System.out.println(wrong == 0 ? "the page is as due" : wrong + " things are not as due");
        if (wrong != 0) {
            System.exit(1);
        }
    }

    private static void namesEveryCall(String readme) {
        for (Method method : NewDishes.class.getDeclaredMethods()) {
            if (Modifier.isPublic(method.getModifiers())) {
                int parameters = method.getParameterCount();
                String told = parameters == 0 ? "" : "\\w+(, \\w+){" + (parameters - 1) + "}";
                hold(Pattern.compile("(?m)^\\| `" + method.getName() + "\\(" + told + "\\)` \\| \\S").matcher(readme).find(),
                    "no row tells " + method);
            }
        }
    }

    private static void tellsEveryFinding(String readme) {
        for (int which = 0; which < FINDINGS.length; which++) {
            String row = "| " + (-1000000001 - which) + " | " + FINDINGS[which] + " | " + which + " | ";
            hold(readme.contains("\n" + row), "no row begins: " + row);
        }
    }

    private static void namesEveryTest(String readme) throws IOException {
        try (Stream<Path> tests = Files.list(Path.of("src/test/java"))) {
            for (Path test : tests.toList()) {
                String name = test.getFileName().toString().replace(".java", "");
                hold(readme.contains("`" + name + "`"), "the page doesn't name " + name);
            }
        }
    }

    private static void exampleAnswersAsTold(String readme, Path room) throws IOException, InterruptedException {
        List<String> examples = blocks(readme, "java");
        hold(examples.size() == 1, "there are " + examples.size() + " examples");
        for (String example : examples) {
            StringBuilder body = new StringBuilder();
            int told = 0;
            for (String line : example.split("\n")) {
                Matcher m = TOLD.matcher(line);
                boolean isTold = m.matches();
                told += isTold ? 1 : 0;
                body.append(isTold ? asCheck(m) : line).append('\n');
            }
            hold(told >= 10, "the example tells " + told + " answers");
            Path program = room.resolve("Example.java");
            Files.writeString(program, "class Example {\npublic static void main(String[] args) {\n" + body + "}\n"
                + "static void due(String call, long want, long got) {\n"
                + "if (want != got) { System.out.println(call + \" answered \" + got + \", told is \" + want); System.exit(1); }\n"
                + "}\n}\n");
            hold(run(room, "java", "-cp", Path.of(System.getProperty("java.class.path")).toAbsolutePath().toString(),
                program.toString()) == 0, "the example doesn't answer as told");
        }
    }

    private static String asCheck(Matcher told) {
        String name = told.group(1);
        String call = told.group(2);
        String value = name == null ? call : name;
        String made = name == null ? "" : "int " + name + " = " + call + "; ";
        return made + "due(\"" + call + "\", " + told.group(3) + "L, " + value + ");";
    }

    /** Each block of commands is run in a copy of its own, which has nothing but what a clean checkout has. */
    private static void commandsWork(String readme, Path room) throws IOException, InterruptedException {
        List<String> blocks = blocks(readme, "sh");
        hold(blocks.contains(ALL_TESTS + "\n"), "the page doesn't tell how to run all tests");
        int copies = 0;
        for (String block : blocks) {
            // It runs this test, too, and would never end.
            if (block.equals(ALL_TESTS + "\n")) {
                hold(Files.isExecutable(Path.of(ALL_TESTS)), ALL_TESTS + " can't be run");
                continue;
            }
            hold(!block.contains(ALL_TESTS), ALL_TESTS + " must stand alone: " + block);
            Path copy = cleanCopy(room.resolve("copy" + copies));
            copies++;
            hold(run(copy, "sh", "-e", "-c", block) == 0, "these commands fail:\n" + block);
        }
    }

    /** The text of each block of code in a language. */
    private static List<String> blocks(String readme, String language) {
        List<String> blocks = new ArrayList<>();
        Matcher m = Pattern.compile("(?ms)^```" + language + "\n(.*?)^```$").matcher(readme);
        while (m.find()) {
            blocks.add(m.group(1));
        }
        return blocks;
    }

    private static Path cleanCopy(Path place) throws IOException {
        Path copy = Files.createDirectories(place.resolve("main"));
        for (String part : new String[] {"README.md", "NOTES.md", ".ci", "src"}) {
            copyAll(Path.of(part), copy);
        }
        Files.createSymbolicLink(place.resolve("shared"), Path.of("../shared").toRealPath());
        return copy;
    }

    private static void copyAll(Path part, Path to) throws IOException {
        try (Stream<Path> all = Files.walk(part)) {
            for (Path one : all.toList()) {
                Files.copy(one, to.resolve(one));
            }
        }
    }

    private static int run(Path folder, String... command) throws IOException, InterruptedException {
        return new ProcessBuilder(command).directory(folder.toFile()).inheritIO().start().waitFor();
    }

    private static void remove(Path room) throws IOException {
        try (Stream<Path> all = Files.walk(room)) {
            for (Path one : all.sorted((a, b) -> b.compareTo(a)).toList()) {
                Files.delete(one);
            }
        }
    }
}
