import java.io.IOException;
import java.io.UncheckedIOException;
import java.nio.file.Files;
import java.nio.file.Path;
import java.util.ArrayList;
import java.util.LinkedHashMap;
import java.util.List;
import java.util.Map;

/**
 * The sentences of ../shared/DOC.md. Each test quotes the sentence that it is for, or a part of it;
 * in the end every sentence must have been quoted, so that none is left without a test.
 */
final class Sentences {
    /** The sentences of each section, and how often each has been quoted. */
    private static final Map<String, Map<String, Integer>> SECTIONS = read();
    private static String section = "";

    private Sentences() {
    }

    private static Map<String, Map<String, Integer>> read() {
        Map<String, Map<String, Integer>> sections = new LinkedHashMap<>();
        String heading = "";
        boolean isCode = false;
        for (String line : lines()) {
            if (line.startsWith("```")) isCode = !isCode;
            else if (line.startsWith("#")) heading = line.replaceFirst("^#+ *", "");
            else if (!isCode) addSentences(sections.computeIfAbsent(heading, h -> new LinkedHashMap<>()), line.strip());
        }
        return sections;
    }

    private static List<String> lines() {
        try {
            return Files.readAllLines(Path.of("../shared/DOC.md"));
        } catch (IOException e) {
            throw new UncheckedIOException(e);
        }
    }

    private static void addSentences(Map<String, Integer> sentences, String line) {
        // FaceTest compares the signatures, which begin with `.
        if (line.isEmpty() || line.startsWith("----") || line.startsWith("`")) return;
        for (String sentence : line.replaceFirst("^\\d\\. ", "").split("(?<=\\.\\)?)\\s+(?=[A-Z@(])")) {
            sentences.put(sentence, 0);
        }
    }

    /** The section that the next quotes are from. */
    static void in(String heading) {
        section = heading;
        if (!SECTIONS.containsKey(heading)) Script.due("the section " + heading, "missing", "there");
    }

    /** A test of a sentence, or of the part of it that is quoted. */
    static void test(String quote, String... script) {
        quoted(quote);
        Script.run(section + ": " + quote, script);
    }

    /** A sentence that names no boundary: it names things, or others tell what it says. */
    static void plain(String... quotes) {
        for (String quote : quotes) quoted(quote);
    }

    /** An example of the document: the calls and answers that stand behind its colon. */
    static void example(String quote) {
        for (String sentence : quoted(quote)) {
            Script.run(section + ": " + quote, sentence.substring(sentence.indexOf(": ") + 2).replaceFirst("\\.$", ""));
        }
    }

    private static List<String> quoted(String quote) {
        List<String> found = new ArrayList<>();
        Map<String, Integer> sentences = SECTIONS.getOrDefault(section, Map.of());
        for (String sentence : sentences.keySet()) {
            if (sentence.equals(quote)) found = new ArrayList<>(List.of(sentence));
            else if (sentence.contains(quote) && !found.contains(quote)) found.add(sentence);
        }
        Script.due(section + ": sentences with " + quote, found.size(), 1);
        for (String sentence : found) sentences.merge(sentence, 1, Integer::sum);
        return found;
    }

    static void requireAllQuoted() {
        SECTIONS.forEach((heading, sentences) -> sentences.forEach((sentence, times) -> {
            if (times == 0) Script.due(heading + ": tests of " + sentence, times, "some");
        }));
    }

    // ---- lines of scripts

    static String index(String... calls) {
        return refused("IndexOutOfBoundsException", calls);
    }

    static String argument(String... calls) {
        return refused("IllegalArgumentException", calls);
    }

    static String state(String... calls) {
        return refused("IllegalStateException", calls);
    }

    private static String refused(String exception, String... calls) {
        StringBuilder lines = new StringBuilder();
        for (String call : calls) lines.append(call).append(" = throws ").append(exception).append('\n');
        return lines.toString();
    }

    static String times(int n, String line) {
        return (line + "\n").repeat(n);
    }

    /** The calls that fill the text, and the fault that it has then. */
    static String text(String bytes, int fault) {
        return "text \"" + bytes + "\" = " + fault + "\n";
    }

    /** The present pose, as clip, time and weight of each entry. */
    static String pose(int... clipTimeWeight) {
        int size = clipTimeWeight.length / 3;
        StringBuilder lines = new StringBuilder("poseSize() = " + size + "\n");
        for (int i = 0; i < size; i++) {
            lines.append("poseClip(" + i + ") = " + clipTimeWeight[3 * i] + "; poseTime(" + i + ") = " + clipTimeWeight[3 * i + 1]
                + "; poseWeight(" + i + ") = " + clipTimeWeight[3 * i + 2] + "\n");
        }
        return lines.toString();
    }
}
