import java.lang.reflect.InvocationTargetException;
import java.lang.reflect.Method;
import java.util.ArrayList;
import java.util.HashMap;
import java.util.List;
import java.util.Map;

/**
 * Carries out calls that are written as the document writes them, on a new object for each script:
 * "addClip(10) = 0; tick(0) = throws IllegalArgumentException". A line 'text "A&gt;B/4" = -1' empties
 * the text, types the bytes and asks for the fault. Behind each call that throws, other objects
 * tell whether the call has changed anything that can be asked for.
 */
final class Script {
    private static final Map<String, Method> METHODS = new HashMap<>();
    private static int wrong;
    private static int checked;

    private final String title;
    private final List<Call> done = new ArrayList<>();
    private final AnimationController object = new AnimationController();

    static {
        for (Method m : AnimationController.class.getDeclaredMethods()) METHODS.put(m.getName(), m);
    }

    private record Call(String text, Method method, Object[] arguments) {
        @Override public String toString() {
            return text;
        }

        Object askOf(AnimationController x) {
            try {
                return method.invoke(x, arguments);
            } catch (InvocationTargetException e) {
                return "throws " + toldOf(e.getCause());
            } catch (IllegalAccessException e) {
                throw new IllegalStateException(e);
            }
        }
    }

    private Script(String title) {
        this.title = title;
    }

    static void run(String title, String... parts) {
        Script script = new Script(title);
        for (String part : parts) {
            for (String line : part.split("\n")) script.line(line.strip());
        }
        due(title + ": more calls than an object is promised to last for", script.done.size() > 512, false);
    }

    /** Ends the test with its verdict. */
    static void end() {
        System.out.println(wrong == 0 ? checked + " answers are as due" : wrong + " answers are not as due");
        if (wrong != 0) System.exit(1);
    }

    static void due(String what, Object got, Object want) {
        checked++;
        if (!String.valueOf(got).equals(String.valueOf(want))) {
            wrong++;
            System.out.println(what + " answered " + got + ", due is " + want);
        }
    }

    private void line(String line) {
        if (line.startsWith("#")) return;
        if (line.startsWith("text ")) {
            int open = line.indexOf('"'), close = line.lastIndexOf('"');
            carryOut("clearText()", null);
            for (char c : line.substring(open + 1, close).toCharArray()) carryOut("type(" + (int) c + ")", null);
            String rest = line.substring(close + 1).replace("=", "").strip();
            if (!rest.isEmpty()) due(title + ": fault of " + line.substring(open, close + 1), object.fault(), rest);
            return;
        }
        for (String statement : line.split(";")) {
            String s = statement.strip();
            if (s.isEmpty()) continue;
            int equals = s.lastIndexOf('=');
            if (equals < 0) carryOut(s, null);
            else carryOut(s.substring(0, equals).strip(), s.substring(equals + 1).strip());
        }
    }

    private void carryOut(String text, String want) {
        Call call = parsed(text);
        Object got = call.askOf(object);
        boolean refused = String.valueOf(got).startsWith("throws ");
        if (want != null) due(title + ": " + text + " after " + tail(), got, want);
        else if (refused) due(title + ": " + text + " after " + tail(), got, "an answer");
        if (refused) requireUnchanged(call);
        else done.add(call);
    }

    private String tail() {
        return done.subList(Math.max(0, done.size() - 6), done.size()).toString();
    }

    private void requireUnchanged(Call refused) {
        for (int view = 0; view < Witness.VIEWS; view++) {
            AnimationController untouched = replayed(), touched = replayed();
            refused.askOf(touched);
            due(title + ": view " + view + " after " + refused, Witness.view(view, touched), Witness.view(view, untouched));
        }
    }

    private AnimationController replayed() {
        AnimationController x = new AnimationController();
        for (Call call : done) call.askOf(x);
        return x;
    }

    /** The exception's name, and who threw it if it was not the class itself with a throw of its own. */
    static String toldOf(Throwable thrown) {
        StackTraceElement[] trace = thrown.getStackTrace();
        String name = thrown.getClass().getSimpleName();
        boolean isOwn = trace.length > 0 && trace[0].getClassName().startsWith("AnimationController");
        return isOwn ? name : name + " of the machine";
    }

    private static Call parsed(String call) {
        int open = call.indexOf('('), close = call.lastIndexOf(')');
        Method method = METHODS.get(call.substring(0, open).strip());
        if (method == null) throw new IllegalArgumentException("no such method: " + call);
        String inside = call.substring(open + 1, close).strip();
        String[] words = inside.isEmpty() ? new String[0] : inside.split(",");
        Class<?>[] types = method.getParameterTypes();
        if (words.length != types.length) throw new IllegalArgumentException("wrong number of arguments: " + call);
        Object[] arguments = new Object[words.length];
        for (int i = 0; i < words.length; i++) arguments[i] = argumentOf(words[i].strip(), types[i]);
        return new Call(call, method, arguments);
    }

    private static Object argumentOf(String word, Class<?> type) {
        if (type == boolean.class) {
            if (!word.equals("true") && !word.equals("false")) throw new IllegalArgumentException("no boolean: " + word);
            return word.equals("true");
        }
        switch (word) {
            case "ANY": return AnimationController.ANY;
            case "NONE": return AnimationController.NONE;
            case "MIN": return Integer.MIN_VALUE;
            case "MAX": return Integer.MAX_VALUE;
            default: return Integer.parseInt(word);
        }
    }
}
