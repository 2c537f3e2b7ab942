import java.io.File;
import java.io.IOException;
import java.lang.reflect.Field;
import java.lang.reflect.Method;
import java.lang.reflect.Modifier;
import java.nio.file.Files;
import java.nio.file.Path;
import java.util.ArrayList;
import java.util.List;
import java.util.Set;
import java.util.TreeSet;
import java.util.regex.Matcher;
import java.util.regex.Pattern;
import java.util.stream.Stream;

/** What README.md shows of the class is so, and its commands run the tests. */
public final class ReadmeTest {
    private static final String RUN_ALL = ".ci/run";
    private static final Pattern SHOWN = Pattern.compile("(?:\\w+ (\\w+) = )?(.+); +// ([^: ]+)(?:: .+)?");
    private static final Pattern CALL_ROW = Pattern.compile("\\| `(\\w+)\\(([^)]*)\\)` \\| .+ \\|");
    private static final Pattern CONSTANT_ROW = Pattern.compile("\\| `([A-Z]+)` \\| (-?\\d+) \\| .+ \\|");
    private static final Pattern TEST_NAME = Pattern.compile("`(\\w+Test)`");

    private final Due due = new Due("ReadmeTest");
    private final List<String> lines;
    private final Path room;

    private ReadmeTest(List<String> lines, Path room) {
        this.lines = lines;
        this.room = room;
    }

    public static void main(String[] args) throws IOException, InterruptedException {
        Path room = Files.createTempDirectory("readme");
        ReadmeTest test = new ReadmeTest(Files.readAllLines(Path.of("README.md")), room);
        test.answers();
        test.calls();
        test.constants();
        test.tests();
        test.commands();
        remove(room.toFile());
        test.due.end();
    }

    private List<List<String>> blocks(String language) {
        List<List<String>> found = new ArrayList<>();
        List<String> open = null;
        for (String line : lines) {
            if (line.equals("```" + language)) {
                open = new ArrayList<>();
                found.add(open);
            } else if (line.startsWith("```")) {
                open = null;
            } else if (open != null) {
                open.add(line);
            }
        }
        return found;
    }

    /** The README's code runs as it stands there, each answer next to the one that is shown. */
    private void answers() throws IOException, InterruptedException {
        StringBuilder source = new StringBuilder("public final class ReadmeAnswers {\n"
            + "static int wrong = 0;\n"
            + "static void due(String call, Object want, Object got) {\n"
            + "  if (!want.toString().equals(got.toString())) { wrong++;"
            + " System.out.println(\"README.md: \" + call + \" answered \" + got + \", it shows \" + want); } }\n");
        List<List<String>> blocks = blocks("java");
        StringBuilder calls = new StringBuilder();
        for (int b = 0; b < blocks.size(); b++) {
            source.append("static void block").append(b).append("() {\n");
            for (String line : blocks.get(b)) {
                source.append(asked(line)).append('\n');
            }
            source.append("}\n");
            calls.append("block").append(b).append("(); ");
        }
        source.append("public static void main(String[] args) { ").append(calls)
            .append("System.exit(wrong == 0 ? 0 : 1); }\n}\n");
        due.yes("README.md has code", !blocks.isEmpty());
        Path file = Files.writeString(room.resolve("ReadmeAnswers.java"), source);
        due.is("the code of README.md", 0,
            exitCode("java", "-cp", System.getProperty("java.class.path"), file.toString()));
    }

    private String asked(String line) {
        Matcher shown = SHOWN.matcher(line);
        if (!shown.matches()) {
            due.no("README.md, a comment that is no answer: " + line, line.contains("//"));
            return line;
        }
        String name = shown.group(1);
        String call = shown.group(2);
        String want = shown.group(3).matches("[A-Z]+") ? "WriteOnceVault." + shown.group(3) : shown.group(3);
        String statement = name == null ? "" : line.substring(0, line.indexOf("; ") + 1) + " ";
        return statement + "due(\"" + call + "\", " + want + ", " + (name == null ? call : name) + ");";
    }

    private void calls() {
        Set<String> shown = new TreeSet<>();
        for (String line : lines) {
            Matcher row = CALL_ROW.matcher(line);
            if (row.matches()) {
                int parameters = row.group(2).isEmpty() ? 0 : row.group(2).split(", ").length;
                due.yes("README.md shows once: " + row.group(1), shown.add(row.group(1) + "/" + parameters));
            }
        }
        Set<String> there = new TreeSet<>();
        for (Method m : WriteOnceVault.class.getDeclaredMethods()) {
            if (Modifier.isPublic(m.getModifiers())) there.add(m.getName() + "/" + m.getParameterCount());
        }
        due.yes("README.md shows the calls " + shown + ", there are " + there, shown.equals(there));
    }

    private void constants() {
        Set<String> shown = new TreeSet<>();
        for (String line : lines) {
            Matcher row = CONSTANT_ROW.matcher(line);
            if (row.matches()) shown.add(row.group(1) + "=" + row.group(2));
        }
        Set<String> there = new TreeSet<>();
        for (Field f : WriteOnceVault.class.getFields()) {
            there.add(f.getName() + "=" + valueOf(f));
        }
        due.yes("README.md shows the constants " + shown + ", there are " + there, shown.equals(there));
    }

    private static long valueOf(Field constant) {
        try {
            return constant.getLong(null);
        } catch (IllegalAccessException e) {
            throw new IllegalStateException(e);
        }
    }

    private void tests() throws IOException {
        Set<String> named = new TreeSet<>();
        Matcher names = TEST_NAME.matcher(String.join("\n", lines));
        while (names.find()) {
            named.add(names.group(1));
        }
        Set<String> there = new TreeSet<>();
        try (Stream<Path> files = Files.list(Path.of("src/test/java"))) {
            files.map(f -> f.getFileName().toString()).filter(f -> f.endsWith("Test.java"))
                .forEach(f -> there.add(f.replace(".java", "")));
        }
        due.yes("README.md names the tests " + named + ", there are " + there, named.equals(there));
    }

    private void commands() throws IOException, InterruptedException {
        boolean runsAll = false;
        for (List<String> block : blocks("sh")) {
            if (block.equals(List.of(RUN_ALL))) {
                // It is what runs this test: to run it from here would have no end.
                runsAll = Files.isExecutable(Path.of(RUN_ALL));
            } else {
                String script = String.join("\n", block);
                due.is("README.md: " + script, 0, exitCode("sh", "-e", "-c", script));
            }
        }
        due.yes("README.md says how to run every test, and that can be run", runsAll);
    }

    private int exitCode(String... command) throws IOException, InterruptedException {
        ProcessBuilder builder = new ProcessBuilder(command).redirectErrorStream(true);
        // What a command makes by mktemp goes with the room.
        builder.environment().put("TMPDIR", room.toString());
        File told = room.resolve("told").toFile();
        int code = builder.redirectOutput(told).start().waitFor();
        if (code != 0) {
            System.out.print(Files.readString(told.toPath()));
        }
        return code;
    }

    private static void remove(File file) {
        File[] inside = file.listFiles();
        if (inside != null) {
            for (File f : inside) {
                remove(f);
            }
        }
        file.delete();
    }
}
