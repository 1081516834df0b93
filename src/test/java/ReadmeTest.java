import java.io.File;
import java.io.IOException;
import java.lang.reflect.Method;
import java.lang.reflect.Modifier;
import java.nio.file.Files;
import java.nio.file.Path;
import java.util.ArrayList;
import java.util.Collections;
import java.util.List;
import java.util.TreeSet;
import java.util.regex.Matcher;
import java.util.regex.Pattern;

/** What README.md says of the use of the class and of running its tests is so. */
public final class ReadmeTest {
    private static final Check CHECK = new Check("ReadmeTest");
    private static final Path TESTS = Path.of("src/test/java");
    private static final Path RUN = Path.of(".ci/run");

    /** A call of the example, and behind it the answer or the exception that is due. */
    private static final Pattern TOLD = Pattern.compile("(list\\.(\\w+)\\([^;]*\\)); +// (throws )?([\\w.-]+): .+");

    public static void main(String[] args) throws IOException, InterruptedException {
        String readme = Files.readString(Path.of("README.md"));
        Path room = Files.createTempDirectory("readme");
        example(blocks(readme, "java").get(0), room);
        listedTests(readme);
        commands(blocks(readme, "sh"), room);
        remove(room);
        CHECK.end();
    }

    private static void remove(Path room) throws IOException {
        List<Path> inside = new ArrayList<>(Files.walk(room).toList());
        Collections.reverse(inside);
        for (Path path : inside) {
            Files.delete(path);
        }
    }

    private static List<String> blocks(String readme, String language) {
        List<String> found = new ArrayList<>();
        Matcher block = Pattern.compile("(?s)```" + language + "\n(.*?)```").matcher(readme);
        while (block.find()) {
            found.add(block.group(1));
        }
        return found;
    }

    private static int run(Path in, String... command) throws IOException, InterruptedException {
        return new ProcessBuilder(command).directory(in.toFile()).inheritIO().start().waitFor();
    }

    /** The example is made a program that compares each answer, and run. */
    private static void example(String lines, Path room) throws IOException, InterruptedException {
        StringBuilder program = new StringBuilder("class ReadmeExample { public static void main(String[] args) {\n");
        program.append("Check check = new Check(\"ReadmeExample\");\n");
        TreeSet<String> shown = new TreeSet<>(List.of("append"));
        for (String line : lines.split("\n")) {
            Matcher told = TOLD.matcher(line);
            if (told.matches()) {
                shown.add(told.group(2));
                program.append(compared(told.group(1), told.group(3) != null, told.group(4)));
            } else {
                CHECK.isTrue("an answer stands behind: " + line, !line.startsWith("list."));
                program.append(line);
            }
            program.append("\n");
        }
        Files.writeString(room.resolve("ReadmeExample.java"), program.append("check.end(); } }\n"));
        String classes = Path.of(System.getProperty("java.class.path")).toAbsolutePath().toString();
        CHECK.due("javac ReadmeExample.java", run(room, "javac", "-cp", classes, "-d", ".", "ReadmeExample.java"), 0);
        CHECK.due("java ReadmeExample", run(room, "java", "-cp", classes + File.pathSeparator + ".", "ReadmeExample"), 0);
        CHECK.isTrue("the example shows each call: " + shown, shown.equals(callsOfTheFace()));
    }

    private static String compared(String call, boolean isThrown, String due) {
        if (isThrown) {
            return "check.dueThrow(\"" + call + "\", " + due + ".class, () -> " + call + ");";
        }
        String way = due.contains(".") ? "dueDouble" : "due";
        return "check." + way + "(\"" + call + "\", " + call + ", " + due + (due.contains(".") ? "" : "L") + ");";
    }

    private static TreeSet<String> callsOfTheFace() {
        TreeSet<String> names = new TreeSet<>();
        for (Method method : SharedModuli.class.getDeclaredMethods()) {
            if (Modifier.isPublic(method.getModifiers())) {
                names.add(method.getName());
            }
        }
        return names;
    }

    private static void listedTests(String readme) {
        TreeSet<String> listed = new TreeSet<>();
        Matcher row = Pattern.compile("(?m)^\\| `(\\w+Test)` \\|").matcher(readme);
        while (row.find()) {
            listed.add(row.group(1));
        }
        TreeSet<String> there = new TreeSet<>();
        for (String file : TESTS.toFile().list()) {
            if (file.endsWith("Test.java")) {
                there.add(file.replace(".java", ""));
            }
        }
        CHECK.isTrue("the tests listed, " + listed + ", are those there, " + there, listed.equals(there));
    }

    /** .ci/run itself runs this test, so that only the way to a single test is tried here. */
    private static void commands(List<String> blocks, Path room) throws IOException, InterruptedException {
        CHECK.due("blocks of commands", blocks.size(), 2);
        CHECK.isTrue("the command for all tests is .ci/run", blocks.get(0).trim().equals(RUN.toString()));
        CHECK.isTrue(RUN + " is there", Files.isRegularFile(RUN));
        Files.createSymbolicLink(room.resolve("src"), Path.of("src").toAbsolutePath());
        CHECK.due("the commands for a single test", run(room, "sh", "-e", "-c", blocks.get(1)), 0);
    }
}
