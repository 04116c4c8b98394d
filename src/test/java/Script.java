import java.lang.reflect.InvocationTargetException;
import java.lang.reflect.Method;
import java.util.ArrayList;
import java.util.HashMap;
import java.util.List;
import java.util.Map;

/**
 * Carries out calls that are written as the document writes them, on a new object for each script:
 * "addClip(10) = 0; tick(0) = throws IllegalArgumentException". A line 'text "A&gt;B/4" = -1' empties
 * the text, types the bytes and asks for the fault. Behind each call that throws, a second object
 * tells whether the call has changed anything that can be asked for.
 */
final class Script {
    private static final Map<String, Method> METHODS = new HashMap<>();
    private static int wrong;
    private static int checked;

    private final String title;
    private final List<String> done = new ArrayList<>();
    private final AnimationController object = new AnimationController();

    static {
        for (Method m : AnimationController.class.getDeclaredMethods()) METHODS.put(m.getName(), m);
    }

    private Script(String title) {
        this.title = title;
    }

    static void run(String title, String... parts) {
        Script script = new Script(title);
        for (String part : parts) {
            for (String line : part.split("\n")) script.line(line.strip());
        }
    }

    /** Ends the test with its verdict. */
    static void end() {
        System.out.println(wrong == 0 ? checked + " answers are as due" : wrong + " answers are not as due");
        if (wrong != 0) System.exit(1);
    }

    static void due(String what, Object got, Object want) {
        checked++;
        if (!String.valueOf(got).equals(String.valueOf(want))) {
            wrong++;
            System.out.println(what + " answered " + got + ", due is " + want);
        }
    }

    private void line(String line) {
        if (line.startsWith("#")) return;
        if (line.startsWith("text ")) {
            int open = line.indexOf('"'), close = line.lastIndexOf('"');
            call("clearText()", null);
            for (char c : line.substring(open + 1, close).toCharArray()) call("type(" + (int) c + ")", null);
            String rest = line.substring(close + 1).replace("=", "").strip();
            if (!rest.isEmpty()) due(title + ": fault of " + line.substring(open, close + 1), ask(object, "fault()"), rest);
            return;
        }
        for (String statement : line.split(";")) {
            String s = statement.strip();
            if (s.isEmpty()) continue;
            int equals = s.lastIndexOf('=');
            if (equals < 0) call(s, null);
            else call(s.substring(0, equals).strip(), s.substring(equals + 1).strip());
        }
    }

    private void call(String call, String want) {
        Object got = ask(object, call);
        if (want != null) due(title + ": " + call + " after " + tail(), got, want);
        if (String.valueOf(got).startsWith("throws ")) {
            if (want == null) due(title + ": " + call + " after " + tail(), got, "an answer");
            requireUnchanged(call);
        } else {
            done.add(call);
        }
    }

    private String tail() {
        return done.subList(Math.max(0, done.size() - 6), done.size()).toString();
    }

    private void requireUnchanged(String call) {
        AnimationController untouched = replayed(), touched = replayed();
        ask(touched, call);
        due(title + ": what can be asked after " + call, all(touched), all(untouched));
    }

    private AnimationController replayed() {
        AnimationController x = new AnimationController();
        for (String call : done) ask(x, call);
        return x;
    }

    private static String all(AnimationController x) {
        StringBuilder told = new StringBuilder();
        int[] counts = new int[8];
        for (int i = 0; i < 8; i++) counts[i] = x.count(i);
        for (int i = 0; i < 8; i++) told.append(counts[i]).append(' ');
        for (int i = 0; i < counts[0]; i++) told.append(x.value(i)).append(' ');
        for (int i = 0; i < counts[3]; i++) told.append(x.stateLength(i)).append(' ');
        for (int i = 0; i < counts[4]; i++) told.append(x.blocked(i)).append(' ');
        for (String s : new String[] {"state()", "target()", "transition()", "elapsed()", "isFrozen()", "progress(false)",
            "progress(true)", "fired()", "fault()", "poseSize()", "poseWeight(0)", "poseTime(0)", "foretell(7)", "restore(0)",
            "count(5)", "tick(9)", "fired()", "progress(false)", "setThreshold(1)", "load()", "count(4)"}) {
            told.append(s).append(ask(x, s)).append(' ');
        }
        for (int i = 0; i < x.count(4); i++) {
            if (x.count(3) > 0) told.append(ask(x, "addCondition(" + i + ",0,2,1)")).append(' ');
            told.append(x.setInterruption(i, 0, false)).append(' ').append(x.setTiming(i, -1, 0)).append(' ');
        }
        return told.toString();
    }

    /** The exception's name, and who threw it if it was not the class itself with a throw of its own. */
    static String toldOf(Throwable thrown) {
        StackTraceElement[] trace = thrown.getStackTrace();
        String name = thrown.getClass().getSimpleName();
        boolean isOwn = trace.length > 0 && trace[0].getClassName().startsWith("AnimationController");
        return isOwn ? name : name + " of the machine";
    }

    private static Object ask(AnimationController x, String call) {
        int open = call.indexOf('('), close = call.lastIndexOf(')');
        Method method = METHODS.get(call.substring(0, open).strip());
        if (method == null) throw new IllegalArgumentException("no such method: " + call);
        String inside = call.substring(open + 1, close).strip();
        String[] words = inside.isEmpty() ? new String[0] : inside.split(",");
        Class<?>[] types = method.getParameterTypes();
        if (words.length != types.length) throw new IllegalArgumentException("wrong number of arguments: " + call);
        Object[] arguments = new Object[words.length];
        for (int i = 0; i < words.length; i++) {
            String word = words[i].strip();
            if (types[i] == boolean.class) arguments[i] = word.equals("true");
            else arguments[i] = word.equals("ANY") || word.equals("NONE") ? -1 : Integer.parseInt(word);
        }
        try {
            return method.invoke(x, arguments);
        } catch (InvocationTargetException e) {
            return "throws " + toldOf(e.getCause());
        } catch (IllegalAccessException e) {
            throw new IllegalStateException(e);
        }
    }
}
