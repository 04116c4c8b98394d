import java.io.ByteArrayOutputStream;
import java.io.IOException;
import java.io.PrintStream;
import java.lang.reflect.InvocationTargetException;
import java.lang.reflect.Method;
import java.lang.reflect.Modifier;
import java.net.URL;
import java.net.URLClassLoader;
import java.nio.charset.StandardCharsets;
import java.nio.file.DirectoryStream;
import java.nio.file.Files;
import java.nio.file.Path;
import java.util.ArrayList;
import java.util.Collections;
import java.util.List;
import java.util.regex.Pattern;

/**
 * README.md says what is so: the pieces of Java in it are compiled as one program, and each of them prints
 * what the text behind it shows; and the file names each call, each class and each test.
 */
final class ReadmeTest {
    private static final Path README = Path.of("README.md");
    private static final String END_OF_PIECE = "-- end of piece --";

    public static void main(String[] args) throws Exception {
        List<String> pieces = new ArrayList<>(), shown = new ArrayList<>();
        readPieces(pieces, shown);
        Script.due("pieces of Java in README.md", pieces.size() > 0, true);
        String[] printed = printedBy(pieces);
        for (int i = 0; i < pieces.size(); i++) {
            Script.due("what piece " + i + " of README.md prints", printed[i], shown.get(i));
        }
        requireNames();
        Script.end();
    }

    /** The pieces of Java, and what the text behind each of them shows. */
    private static void readPieces(List<String> pieces, List<String> shown) throws IOException {
        String kind = "";
        StringBuilder piece = new StringBuilder();
        for (String line : Files.readAllLines(README)) {
            if (!line.startsWith("```")) {
                if (!kind.isEmpty()) piece.append(line).append('\n');
            } else if (kind.isEmpty()) {
                kind = line.substring(3);
                piece.setLength(0);
            } else {
                if (kind.equals("java")) {
                    Script.due("the last piece of Java before " + piece + " has its text", shown.size(), pieces.size());
                    pieces.add(piece.toString());
                }
                if (kind.equals("text")) shown.add(piece.toString());
                kind = "";
            }
        }
        Script.due("texts behind the pieces of README.md", shown.size(), pieces.size());
    }

    private static String[] printedBy(List<String> pieces) throws Exception {
        StringBuilder program = new StringBuilder("public final class ReadmeProgram { public static void main(String[] args) {\n");
        for (String piece : pieces) program.append(piece).append("System.out.println(\"" + END_OF_PIECE + "\");\n");
        program.append("} }\n");
        Path directory = Files.createTempDirectory("readme");
        try {
            compile(directory, program.toString());
            return run(directory).split(END_OF_PIECE + "\n", -1);
        } finally {
            empty(directory);
        }
    }

    private static void compile(Path directory, String program) throws Exception {
        Path file = directory.resolve("ReadmeProgram.java");
        Files.writeString(file, program);
        Process javac = new ProcessBuilder("javac", "-Xlint:all", "-Werror", "-cp", System.getProperty("java.class.path"),
            "-d", directory.toString(), file.toString()).inheritIO().start();
        if (javac.waitFor() != 0) throw new IllegalStateException("the pieces of Java in README.md do not compile");
    }

    private static String run(Path directory) throws Exception {
        PrintStream before = System.out;
        ByteArrayOutputStream printed = new ByteArrayOutputStream();
        try (URLClassLoader loader = new URLClassLoader(new URL[] {directory.toUri().toURL()})) {
            Method main = loader.loadClass("ReadmeProgram").getMethod("main", String[].class);
            System.setOut(new PrintStream(printed, true, StandardCharsets.UTF_8));
            main.invoke(null, (Object) new String[0]);
        } catch (InvocationTargetException e) {
            throw new IllegalStateException("the pieces of Java in README.md throw", e.getCause());
        } finally {
            System.setOut(before);
        }
        return printed.toString(StandardCharsets.UTF_8).replace("\r\n", "\n");
    }

    private static void empty(Path directory) throws IOException {
        try (DirectoryStream<Path> files = Files.newDirectoryStream(directory)) {
            for (Path file : files) Files.delete(file);
        }
        Files.delete(directory);
    }

    private static void requireNames() throws IOException {
        String readme = Files.readString(README);
        for (Method m : AnimationController.class.getDeclaredMethods()) {
            if (Modifier.isPublic(m.getModifiers())) requireListed(readme, m);
        }
        for (Class<?> c : AnimationController.class.getDeclaredClasses()) requireNamed(readme, c.getSimpleName());
        try (DirectoryStream<Path> tests = Files.newDirectoryStream(Path.of("src/test/java"), "*.java")) {
            for (Path test : tests) requireNamed(readme, test.getFileName().toString().replace(".java", ""));
        }
    }

    /** The call stands in the file, in backquotes, with as many arguments as it has. */
    private static void requireListed(String readme, Method call) {
        String arguments = String.join(", ", Collections.nCopies(call.getParameterCount(), "\\w+"));
        Pattern listed = Pattern.compile("`" + call.getName() + "\\(" + arguments + "\\)`");
        Script.due("README.md lists " + call, listed.matcher(readme).find(), true);
    }

    private static void requireNamed(String readme, String name) {
        Script.due("README.md names " + name, readme.contains("`" + name + "`"), true);
    }
}
