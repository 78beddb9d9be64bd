import java.io.File;
import java.io.IOException;
import java.lang.reflect.Field;
import java.lang.reflect.Modifier;
import java.nio.file.Files;
import java.nio.file.Path;
import java.util.List;

/** README.md: it tells every call and constant of the class and every test, and its example prints what it says. */
public final class ReadmeTest {
    private static final Path README = Path.of("README.md");
    private static final Path SOURCE = Path.of("src/main/java/ValueConnector.java");
    private static final File TESTS = new File("src/test/java");
    /** So far in are the members of the class itself; those of the classes inside it stand further in. */
    private static final String FACE_INDENT = "    public ";

    public static void main(String[] args) throws IOException, ReflectiveOperationException, InterruptedException {
        Check.sentence("README.md says how to use the class, and how to run its tests");
        String readme = Files.readString(README);
        calls(readme);
        constants(readme);
        tests(readme);
        example(readme);
        Check.finish();
    }

    private static void tells(String readme, String words) {
        Check.due("README.md tells " + words, readme.contains(words), true);
    }

    private static void calls(String readme) throws IOException {
        int calls = 0;
        for (String line : Files.readAllLines(SOURCE)) {
            if (line.startsWith(FACE_INDENT) && line.endsWith(") {")) {
                tells(readme, "`" + line.substring(FACE_INDENT.length(), line.length() - " {".length()) + "`");
                calls++;
            }
        }
        Check.due("constructors and methods of the face", calls, 1 + 20);
    }

    private static void constants(String readme) throws ReflectiveOperationException {
        tells(readme, "`NONE` (which is " + ValueConnector.NONE + ")");
        for (Field field : ValueConnector.class.getFields()) {
            boolean isInTable = Modifier.isStatic(field.getModifiers()) && !field.getName().equals("NONE");
            if (isInTable) {
                tells(readme, "| `" + field.getName() + "` | " + field.getInt(null) + " |");
            }
        }
    }

    private static void tests(String readme) {
        for (String name : TESTS.list((folder, file) -> file.endsWith("Test.java"))) {
            tells(readme, "| `" + name.substring(0, name.length() - ".java".length()) + "` |");
        }
        tells(readme, "```sh\n.ci/run\n```");
    }

    private static void example(String readme) throws IOException, InterruptedException {
        String due = block(readme, "text");
        String got = printedBy(block(readme, "java"));
        boolean isAlike = got.equals(due);
        Check.due("the example prints what README.md says", isAlike, true);
        if (!isAlike) {
            System.out.println("it printed\n" + got + "README.md says\n" + due);
        }
    }

    /** The lines of the first block that is marked with a kind. */
    private static String block(String readme, String kind) {
        String mark = "```" + kind + "\n";
        int start = readme.indexOf(mark) + mark.length();
        return readme.substring(start, readme.indexOf("```", start));
    }

    /** Runs the program as README.md says: from its source, with the class on the class path. */
    private static String printedBy(String program) throws IOException, InterruptedException {
        Path folder = Files.createTempDirectory("readme");
        Path source = Files.writeString(folder.resolve("Example.java"), program);
        Path printed = folder.resolve("printed");
        String java = Path.of(System.getProperty("java.home"), "bin", "java").toString();
        String classes = System.getProperty("java.class.path");
        Process process = new ProcessBuilder(java, "-cp", classes, source.toString())
                .redirectErrorStream(true).redirectOutput(printed.toFile()).start();
        Check.due("the example's exit code", process.waitFor(), 0);
        String got = Files.readString(printed).replace(System.lineSeparator(), "\n");
        for (Path made : List.of(source, printed, folder)) {
            Files.delete(made);
        }
        return got;
    }
}
