import java.io.IOException;
import java.lang.reflect.Field;
import java.lang.reflect.Method;
import java.lang.reflect.Modifier;
import java.nio.file.Files;
import java.nio.file.Path;
import java.util.Arrays;
import java.util.TreeSet;

/**
 * The public face as the document tells it, and those rules of LANGUAGE.md that a look at the class
 * and at its text can tell.
 */
final class FaceTest {
    private static final String[] FACE = {
        "int addParameter(int) IllegalArgumentException IllegalStateException",
        "int set(int,int) IndexOutOfBoundsException IllegalArgumentException",
        "int value(int) IndexOutOfBoundsException",
        "int addClip(int) IllegalArgumentException IllegalStateException",
        "int addEvent(int,int,int) IndexOutOfBoundsException IllegalArgumentException IllegalStateException",
        "int addClipNode(int) IndexOutOfBoundsException IllegalStateException",
        "int addLine(int) IndexOutOfBoundsException IllegalStateException",
        "int addChild(int,int,int) IndexOutOfBoundsException IllegalArgumentException IllegalStateException",
        "int addState(int,int,boolean,int) IndexOutOfBoundsException IllegalArgumentException IllegalStateException",
        "int addTransition(int,int,int) IndexOutOfBoundsException IllegalArgumentException IllegalStateException",
        "int setTiming(int,int,int) IndexOutOfBoundsException IllegalArgumentException IllegalStateException",
        "int setInterruption(int,int,boolean) IndexOutOfBoundsException IllegalArgumentException",
        "int addCondition(int,int,int,int) IndexOutOfBoundsException IllegalArgumentException IllegalStateException",
        "int setThreshold(int) IllegalArgumentException",
        "int type(int) IllegalArgumentException IllegalStateException",
        "int clearText()", "int fault()", "int load() IllegalStateException",
        "int tick(int) IllegalArgumentException IllegalStateException",
        "int reset()", "int state() IllegalStateException", "int target()", "int transition()", "int elapsed()",
        "boolean isFrozen()", "long progress(boolean) IllegalStateException",
        "int stateLength(int) IndexOutOfBoundsException", "int partWeight(int,int) IndexOutOfBoundsException",
        "int blocked(int) IndexOutOfBoundsException", "int poseSize()", "int poseClip(int) IndexOutOfBoundsException",
        "int poseTime(int) IndexOutOfBoundsException", "int poseWeight(int) IndexOutOfBoundsException", "int fired()",
        "int event(int,int) IndexOutOfBoundsException IllegalArgumentException",
        "int foretell(int) IllegalArgumentException IllegalStateException",
        "int ticksTo(int) IndexOutOfBoundsException", "int steps(int,int) IndexOutOfBoundsException",
        "int keep(int) IllegalArgumentException IllegalStateException",
        "int restore(int) IllegalArgumentException IllegalStateException", "int count(int) IllegalArgumentException",
    };

    private static final String[] FORBIDDEN = {"->", "::", "try {", "catch", "finally", "synchronized", "assert", "instanceof",
        "System.out", "System.nano", "System.current", "Math.random", "Exact", "double", "float", "import static", "record ", "\t"};

    public static void main(String[] args) throws IOException {
        members();
        insides();
        text();
        Script.end();
    }

    private static void members() {
        Class<?> face = AnimationController.class;
        TreeSet<String> open = new TreeSet<>(), closed = new TreeSet<>();
        for (Method m : face.getDeclaredMethods()) {
            if (Modifier.isPublic(m.getModifiers())) open.add(told(m));
            else if (Modifier.isPrivate(m.getModifiers())) closed.add(m.getName());
            else Script.due("the visibility of " + m, "neither public nor private", "public or private");
        }
        Script.due("the public methods", open, new TreeSet<>(Arrays.asList(FACE)));
        for (Method m : face.getDeclaredMethods()) {
            if (Modifier.isPublic(m.getModifiers())) Script.due("a private namesake of " + m.getName(), closed.contains(m.getName()), false);
        }
        TreeSet<String> constants = new TreeSet<>();
        for (Field f : face.getDeclaredFields()) {
            if (Modifier.isPublic(f.getModifiers())) constants.add(f.getName());
            else Script.due(f.getName() + " is private", Modifier.isPrivate(f.getModifiers()), true);
            if (Modifier.isStatic(f.getModifiers())) Script.due(f.getName() + " is final", Modifier.isFinal(f.getModifiers()), true);
        }
        Script.due("the public fields", constants, "[ANY, NONE, WHOLE]");
        Script.due("constructors", Arrays.toString(face.getDeclaredConstructors()), "[public AnimationController()]");
        Script.due("public and final", face.getModifiers(), Modifier.PUBLIC | Modifier.FINAL);
    }

    private static String told(Method m) {
        StringBuilder told = new StringBuilder(m.getReturnType() + " " + m.getName() + "(");
        String comma = "";
        for (Class<?> type : m.getParameterTypes()) {
            told.append(comma).append(type);
            comma = ",";
        }
        told.append(')');
        for (Class<?> type : m.getExceptionTypes()) told.append(' ').append(type.getSimpleName());
        return told.toString();
    }

    private static void insides() {
        Class<?>[] insides = AnimationController.class.getDeclaredClasses();
        Script.due("some twelve classes", insides.length + 1 <= 12, true);
        for (Class<?> c : insides) {
            Script.due(c + " is static", Modifier.isStatic(c.getModifiers()), true);
            Script.due(c + " is private", Modifier.isPrivate(c.getModifiers()), true);
            int fields = 0;
            for (Field f : c.getDeclaredFields()) {
                if (!Modifier.isStatic(f.getModifiers())) fields++;
                else Script.due(f + " is final", Modifier.isFinal(f.getModifiers()), true);
            }
            Script.due(c + " has some twenty fields at most", fields <= 20, true);
            for (Method m : c.getDeclaredMethods()) Script.due(m + " has seven parameters at most", m.getParameterCount() <= 7, true);
        }
    }

    private static void text() throws IOException {
        String source = Files.readString(Path.of("src/main/java/AnimationController.java"));
        String code = source.replaceAll("(?s)/\\*.*?\\*/", "").replaceAll("//[^\n]*", "").replaceAll("\"[^\"\n]*\"", "\"\"");
        for (String word : FORBIDDEN) Script.due("the code has " + word, code.contains(word), false);
        for (String line : code.split("\n")) {
            if (line.startsWith("import ")) Script.due("an import", line, "import java.util.ArrayList;");
        }
        int length = 0;
        for (String line : code.split("\n")) {
            length = line.matches("    (    )?\\S.*[({]$") && line.startsWith("    ") ? 0 : length + 1;
            if (line.equals("        }") || line.equals("    }")) Script.due("a method has some sixty lines at most", length <= 60, true);
        }
    }
}
