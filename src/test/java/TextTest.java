/** Promises 16 to 19: the text and its faults. */
final class TextTest {
    private static final String ARGUMENT = " = throws IllegalArgumentException\n";
    private static final String STATE = " = throws IllegalStateException\n";

    public static void main(String[] args) {
        typing();
        goodTexts();
        faultsOfTheGrammar();
        faultsOfNames();
        faultsOfNumbers();
        faultsOfAttributes();
        room();
        loading();
        Script.end();
    }

    private static String faults(String... textsAndFaults) {
        StringBuilder lines = new StringBuilder();
        for (int i = 0; i < textsAndFaults.length; i += 2) {
            lines.append("text \"").append(textsAndFaults[i]).append("\" = ").append(textsAndFaults[i + 1]).append('\n');
        }
        return lines.toString();
    }

    private static void check(String title, String... textsAndFaults) {
        // Few texts for an object, as each byte is a call.
        for (int i = 0; i < textsAndFaults.length; i += 2) {
            Script.run(title, BuildTest.BASE, faults(textsAndFaults[i], textsAndFaults[i + 1]));
        }
    }

    private static void typing() {
        Script.run("16 type, 17 clearText", "type(0) = 1; type(255) = 2; count(7) = 2\n", "type(-1)" + ARGUMENT, "type(256)" + ARGUMENT,
            "clearText() = 2; count(7) = 0; clearText() = 0; type(65) = 1\n");
        Script.run("16 150 bytes", "type(32)\n".repeat(150), "count(7) = 150\n", "type(32)" + STATE, "type(256)" + ARGUMENT,
            "fault() = 150; clearText() = 150; type(32) = 1; fault() = 1\n");
    }

    private static void goodTexts() {
        check("18 no fault", "A>B/0", "-1", "*>A/60", "-1", "B>B/007", "-1", "A>B/5;B>A/5;*>A/5", "-1",
            "A>B/5@300+99!4o?a>100?b?c", "-1", "A>B/5?a<-100?a=0?a#-0", "-1", "A>B/5o?~b+0!0@0", "-1",
            "  A > B / 5 @ 3 + 4 ! 1 o ? a > - 7 ? ~ b ; * > A / 1  ", "-1", "*>A/1+5!3o?c", "-1");
    }

    private static void faultsOfTheGrammar() {
        check("18 a byte that cannot stand", "", "0", "   ", "3", "A", "1", "A ", "2", "A>", "2", "A>B", "3", "A>B/", "4",
            "A>B/ ", "5", "A>B/5;", "6", "A>B/5; ", "7", "A>B/5@", "6", "A>B/5?", "6", "A>B/5?~", "7", "A>B/5?a", "7",
            "A>B/5?a>", "8", "A>B/5?a>-", "9",
            ";A>B/5", "0", "A>B/5;;", "6", "A<B/5", "1", "A>*/5", "2", "A>B>5", "3", "A>B/x", "4", "A>B/-5", "4", "A>B/5,", "5",
            "A>B/5 5", "6", "A>B/1 2;", "6", "A>B/5@-1", "6", "A>B/5+o", "6", "A>B/5?>", "6", "A>B/5?~~b", "7", "A>B/5?b~", "7",
            "A>B/5?a>--1", "9", "A>B/5?a>>1", "8", "A>B/5?a>1-", "9", "A>B/5O", "5", "a>B/5", "0", "AA>B/5", "1", "A>B/5A", "5");
    }

    private static void faultsOfNames() {
        check("18 states and parameters", "C>A/5", "0", "A>C/5", "2", "@>A/5", "0", "A>B/5;Z>A/5", "6", "A>B/5?d", "6", "A>B/5?h>1", "6",
            "A>B/5?i", "6", "A>B/5?A", "6", "A>B/5?~d", "7", "A>B/5?~a", "7", "A>B/5?~c", "7", "A>B/5?~b", "-1",
            "A>B/5?a;", "7", "A>B/5?a?b", "7", "A>B/5?b>1", "7", "A>B/5?b=1", "7", "A>B/5?c=1", "7", "A>B/5?~b=1", "8");
        // What can stand is told by the grammar: > and ~ can, although nothing could follow.
        Script.run("18 without states", faults("A>A/5", "0", "*", "1", "*>", "2", "*>A", "2", "*/", "1"));
        Script.run("18 without switches", "addParameter(0); addClip(5); addClipNode(0); addState(0, 100, true, 0)\n",
            faults("A>A/5?~", "7", "A>A/5?~a", "7", "A>A/5?b", "6"));
        Script.run("18 as it would be added now", "addClip(5); addClipNode(0); addState(0, 100, true, 0)\n",
            faults("A>B/5?~a", "2"), "addState(0, 100, true, 0); fault() = 7; addParameter(1); fault() = -1\n");
    }

    private static void faultsOfNumbers() {
        check("18 numbers", "A>B/61", "4", "A>B/060", "-1", "A>B/100", "4", "A>B/0000", "4", "A>B/0060", "4", "A>B/99999999999", "4",
            "A>B/5@301", "6", "A>B/5@300", "-1", "A>B/5@0300", "6", "A>B/5+100", "6", "A>B/5!5", "6", "A>B/5! 10", "7",
            "A>B/5?a>101", "8", "A>B/5?a>-101", "9", "A>B/5?a>- 101", "10", "A>B/5?a>-100", "-1", "A>B/5?a>-0100", "9", "A>B/ 61 x", "5",
            "A>B/61;A>C/5", "4");
    }

    private static void faultsOfAttributes() {
        check("18 how often", "A>B/5@1@1", "7", "A>B/5+1+1", "7", "A>B/5!1!1", "7", "A>B/5oo", "6", "A>B/5o@1o", "8",
            "A>B/5?b?b?b", "-1", "A>B/5?b?b?b?b", "11", "*>B/5@1", "5", "*>B/5+1@1", "7", "A>B/5@1;*>B/5@1", "13",
            "A>B/5@1+1!1o;A>B/5@1+1!1o", "-1", "A>B/5?b?b?b;A>B/5?b?b?b", "-1");
    }

    private static void room() {
        String full = "A>B/5;".repeat(24);
        Script.run("18 the 25th transition", BuildTest.BASE, faults(full.substring(0, full.length() - 1), "-1"), "load() = 24; count(4) = 24\n",
            "type(32) = 1; type(65) = 2; fault() = 1\n", "load()" + STATE);
        Script.run("18 the 25th of a text", BuildTest.BASE, faults(full, "144"), "type(32) = 145; fault() = 145; type(120) = 146; fault() = 145\n");
        Script.run("18 the 25th that would be right", BuildTest.BASE, faults(full, "144"), "type(65) = 145; fault() = 144\n");
        Script.run("18 room for one", BuildTest.BASE, "addTransition(0, 1, 5)\n".repeat(23), faults("A>B/5", "-1", "A>B/5;A>B/5", "6"));
    }

    private static void loading() {
        Script.run("19 load", BuildTest.BASE, "load()" + STATE, faults("A>B/7@250+31!3o?a<-5?~b?c;*>A/0?b;B>A/9?b", "-1"),
            "addTransition(1, 0, 60) = 0; addCondition(0, 1, 2, 1); load() = 3; count(4) = 4; count(7) = 0; fault() = 0\n",
            "blocked(1) = 2; set(0, -6); setTiming(1, 0, 31) = 250; blocked(1) = 5; set(2, 1); blocked(1) = 0; set(1, 1); blocked(1) = 4\n",
            "set(0, -5); blocked(1) = 3; set(1, 0); set(0, -6); addCondition(1, 0, 0, 0)" + STATE,
            "tick(1); transition() = 1; target() = 1; progress(true) = 410000; value(2) = 0; setInterruption(1, 0, false) = 3\n",
            "tick(6); state() = 1; transition() = -1; setTiming(1, -1, 0) = 0; blocked(2) = 3; set(1, 1); blocked(2) = 0; blocked(3) = 0\n",
            "setTiming(3, -1, 0) = -1; setInterruption(3, 0, false) = 0; addCondition(3, 0, 0, 0) = 2\n");
        // Only a transition with the mark leaves out those with greater numbers.
        Script.run("19 the mark", BuildTest.BASE, "addState(0, 100, true, 0) = 2\n", faults("A>B/9!1o;A>C/9;B>C/9", "-1"),
            "load() = 3; tick(1); transition() = 0; blocked(1) = 1; setInterruption(0, 1, false) = 1; blocked(1) = 0\n");
        Script.run("19 a switch, denied and not", BuildTest.BASE, faults("A>B/9?b;A>B/9?~b", "-1"),
            "load() = 2; blocked(0) = 3; blocked(1) = 0; set(1, 1); blocked(0) = 0; blocked(1) = 3\n");
        Script.run("19 the operators", BuildTest.BASE, faults("A>B/9?a>-3;A>B/9?a<-3;A>B/9?a=-3;A>B/9?a#-3", "-1"),
            "load() = 4; set(0, -4); blocked(0) = 3; blocked(1) = 0; blocked(2) = 3; blocked(3) = 0\n",
            "set(0, -3); blocked(0) = 3; blocked(1) = 3; blocked(2) = 0; blocked(3) = 3\n",
            "set(0, -2); blocked(0) = 0; blocked(1) = 3; blocked(2) = 3; blocked(3) = 0\n");
        Script.run("19 a text with a fault stays", BuildTest.BASE, faults("A>B/9;A>C/9", "8"),
            "load()" + STATE, "count(7) = 11; count(4) = 0; addState(0, 100, true, 0) = 2; load() = 2; count(7) = 0\n");
    }
}
