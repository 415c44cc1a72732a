import java.nio.file.Files;
import java.nio.file.Path;
import java.util.ArrayList;
import java.util.List;
import java.util.regex.Matcher;
import java.util.regex.Pattern;

/** Compiles the examples of README.md as one program and asks that each call answers what stands behind it. */
public final class ReadmeTest {
    private static final Pattern BLOCK = Pattern.compile("(?s)```java\n(.*?)```");
    private static final Pattern ANSWERED = Pattern.compile("(x\\.\\w+\\(.*\\)); +// (-?\\d+|true|false)\\b.*");
    private static final String DUE = "static boolean wrong;"
            + "static void due(String call, Object got, Object want) { if (!got.equals(want)) { wrong = true;"
            + "System.out.println(\"README: \" + call + \" answered \" + got + \", there stands \" + want); } }\n";

    private static int answers;

    private ReadmeTest() {
    }

    public static void main(String[] args) throws Exception {
        Path dir = Files.createTempDirectory("readme");
        Path file = dir.resolve("ReadmeExample.java");
        Files.writeString(file, program(Files.readString(Path.of("README.md"))));
        boolean fine = ends("javac", "-d", dir.toString(), "src/main/java/ToolSaints.java", file.toString())
                && ends("java", "-cp", dir.toString(), "ReadmeExample") && answers > 0;
        for (Path left : list(dir)) {
            Files.delete(left);
        }
        System.out.println(fine ? "README.md tells " + answers + " answers as they are" : "README.md is wrong");
        if (!fine) {
            System.exit(1);
        }
    }

    /** What is inside stands ahead of its directory. */
    private static List<Path> list(Path dir) throws Exception {
        try (var all = Files.walk(dir)) {
            List<Path> paths = new ArrayList<>(all.toList());
            java.util.Collections.reverse(paths);
            return paths;
        }
    }

    private static boolean ends(String... command) throws Exception {
        return new ProcessBuilder(command).inheritIO().start().waitFor() == 0;
    }

    private static String program(String page) {
        StringBuilder members = new StringBuilder(DUE);
        StringBuilder body = new StringBuilder();
        Matcher block = BLOCK.matcher(page);
        while (block.find()) {
            boolean member = block.group(1).startsWith("static ");
            for (String line : block.group(1).split("\n")) {
                (member ? members : body).append(checked(line)).append('\n');
            }
        }
        return "public final class ReadmeExample {\n" + members + "public static void main(String[] args) {\n" + body
                + "if (wrong) { System.exit(1); }\n}\n}\n";
    }

    private static String checked(String line) {
        Matcher m = ANSWERED.matcher(line);
        if (!m.matches()) {
            return line;
        }
        answers++;
        return "due(\"" + m.group(1) + "\", " + m.group(1) + ", " + m.group(2) + ");";
    }
}
