import java.io.File;
import java.nio.file.Files;
import java.nio.file.Path;
import java.util.ArrayList;
import java.util.Comparator;
import java.util.List;
import java.util.regex.Matcher;
import java.util.regex.Pattern;
import java.util.stream.Stream;

/** What README.md shows of the class: its method and its calls are compiled and run, and answer as it says. */
public final class ReadmeTest {
    private static final Pattern BLOCK = Pattern.compile("```(java|text)\n(.*?)```", Pattern.DOTALL);
    private static final Pattern LINE = Pattern.compile("`([a-z][a-z0-9 -]*;)`");
    private static final Pattern CALL = Pattern.compile("(town\\.\\w+\\([^;]*\\)); *// (-?\\d+|true|false)\\b.*");

    private static List<String> blocks(String readme) {
        List<String> all = new ArrayList<>();
        Matcher matcher = BLOCK.matcher(readme);
        while (matcher.find()) {
            all.add(matcher.group(2));
        }
        return all;
    }

    /** All lines of a town that the table shows, told together. */
    private static String lines(String readme) {
        StringBuilder all = new StringBuilder();
        Matcher matcher = LINE.matcher(readme);
        while (matcher.find()) {
            all.append(matcher.group(1)).append('\n');
        }
        return all.toString();
    }

    private static String quoted(String text) {
        return '"' + text.replace("\\", "\\\\").replace("\"", "\\\"").replace("\n", "\\n") + '"';
    }

    /** Calls without an answer in a comment run as they stand. */
    private static String checked(String line) {
        Matcher call = CALL.matcher(line);
        return call.matches() ? "due(" + quoted(call.group(1)) + ", \"" + call.group(2) + "\", \"\" + " + call.group(1) + ");" : line;
    }

    private static String program(String method, String text, String calls, String lines) {
        StringBuilder all = new StringBuilder("public final class ReadmeUse {\nstatic int wrong;\n")
            .append("static void due(String call, String want, String got) {\n")
            .append("if (!want.equals(got)) { wrong++; System.out.println(call + \" answered \" + got + \", due is \" + want); }\n}\n")
            .append(method).append("public static void main(String[] args) {\nNoseTown town = new NoseTown();\n")
            .append("due(\"the lines\", \"0\", \"\" + tell(town, ").append(quoted(lines)).append("));\n")
            .append("due(\"the town\", \"0\", \"\" + tell(town, ").append(quoted(text)).append("));\n");
        calls.lines().forEach(line -> all.append(checked(line)).append('\n'));
        return all.append("System.exit(wrong == 0 ? 0 : 1);\n}\n}\n").toString();
    }

    private static int run(List<String> command) throws Exception {
        return new ProcessBuilder(command).inheritIO().start().waitFor();
    }

    private static boolean holds(String program, Path at) throws Exception {
        Path file = at.resolve("ReadmeUse.java");
        Files.writeString(file, program);
        String classes = System.getProperty("java.class.path");
        return run(List.of("javac", "-cp", classes, "-d", at.toString(), file.toString())) == 0
            && run(List.of("java", "-cp", classes + File.pathSeparator + at, "ReadmeUse")) == 0;
    }

    private static void remove(Path at) throws Exception {
        try (Stream<Path> all = Files.walk(at)) {
            for (Path each : all.sorted(Comparator.reverseOrder()).toList()) {
                Files.delete(each);
            }
        }
    }

    public static void main(String[] args) throws Exception {
        String readme = Files.readString(Path.of("README.md"));
        List<String> blocks = blocks(readme);
        Path at = Files.createTempDirectory("readme");
        boolean holds = false;
        try {
            holds = blocks.size() == 3 && NoseTown.NONE == -1
                && holds(program(blocks.get(0), blocks.get(1), blocks.get(2), lines(readme)), at);
        } finally {
            remove(at);
        }
        System.out.println(holds ? "the examples of README.md hold" : "the examples of README.md do not hold");
        if (!holds) {
            System.exit(1);
        }
    }
}
