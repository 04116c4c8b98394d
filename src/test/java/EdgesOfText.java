/** The boundaries that the description names for the text. */
final class EdgesOfText {
    /** A number a, a switch b and a trigger c; the states A and B. */
    private static final String BASE = BuildTest.BASE;

    private EdgesOfText() {
    }

    static void test() {
        Sentences.in("Text");
        lengths();
        grammar();
        names();
        numbers();
        meanings();
        kinds();
        howOften();
        blanks();
        places();
        ranges();
        room();
        early();
    }

    /** A text and its fault on an object of their own, lest there be too many calls. */
    private static void fault(String quote, String base, String text, int fault) {
        Sentences.test(quote, base, Sentences.text(text, fault));
    }

    private static void faults(String quote, String base, Object... textsAndFaults) {
        for (int i = 0; i < textsAndFaults.length; i += 2) fault(quote, base, (String) textsAndFaults[i], (int) textsAndFaults[i + 1]);
    }

    private static void lengths() {
        String most = "Transitions can be added by a text of at most 150 bytes with this grammar:";
        Sentences.test(most, BASE, Sentences.text("A>B/5" + " ".repeat(144), -1), "count(7) = 149; type(32) = 150\n", Sentences.state("type(32)", "type(59)"), "count(7) = 150; fault() = -1; load() = 1; count(7) = 0; blocked(0) = 0\n");
        Sentences.test(most, BASE, Sentences.text(" ".repeat(145) + "A>B/7", -1), "load() = 1; tick(7); state() = 1; transition() = -1\n");
        Sentences.test(most, BASE, Sentences.text(" ".repeat(149) + "*", 150), Sentences.state("type(62)", "load()"));
    }

    private static void grammar() {
        faults("list       = transition { \";\" transition }", BASE, "A>B/5", -1, "A>B/5;B>A/5", -1, "A>B/5;B>A/5;*>A/5;*>B/0", -1, ";A>B/5", 0, "A>B/5;;B>A/5", 6, "A>B/5B>A/5", 5, "A>B/5,B>A/5", 5, "A>B/5;", 6);
        faults("transition = place \">\" state \"/\" number { attribute }", BASE, "A>B/5", -1, "A>B/5o", -1, "A>B/5o+1", -1, "A>B/5!1@2+3o", -1, ">B/5", 0, "AB/5", 1, "A>/5", 2, "A>B5", 3, "A>B/o", 4, "A>>B/5", 2, "A>B//5", 4, "A>B/5/5", 5);
        faults("attribute  = \"@\" number | \"+\" number | \"!\" number | \"o\" | \"?\" condition", BASE, "A>B/5@1", -1, "A>B/5+1", -1, "A>B/5!1", -1, "A>B/5o", -1, "A>B/5?b", -1, "A>B/5@o", 6, "A>B/5+?b", 6, "A>B/5!", 6, "A>B/5o1", 6, "A>B/5?o", 6,
            "A>B/5b", 5, "A>B/5-1", 5, "A>B/5=1", 5);
        faults("condition  = parameter | \"~\" parameter | parameter operator [ \"-\" ] number", BASE, "A>B/5?b", -1, "A>B/5?~b", -1, "A>B/5?a>1", -1, "A>B/5?a>-1", -1, "A>B/5?", 6, "A>B/5?~", 7, "A>B/5?~~b", 7, "A>B/5?b~", 7, "A>B/5?a>", 8, "A>B/5?a>-", 9,
            "A>B/5?a>--1", 9, "A>B/5?a>+1", 8, "A>B/5?a>1-", 9, "A>B/5?>1", 6, "A>B/5?1", 6, "A>B/5?a>>1", 8, "A>B/5?a>b", 8);
    }

    private static void names() {
        String ten = EdgesOfParts.CLIP + Sentences.times(10, "addState(0, 100, true, 0)");
        faults("A state is a capital letter, A for state 0, B for state 1, and so on; a place is a state, or * for any state.", ten, "A>J/5", -1, "J>A/5", -1, "K>A/5", 0, "A>K/5", 2, "@>A/5", 0, "A>@/5", 2, "a>A/5", 0, "A>a/5", 2, "*>J/5", -1, "A>*/5", 2, "[>A/5", 0, "0>A/5", 0);
        Sentences.test("A state is a capital letter, A for state 0, B for state 1, and so on; a place is a state, or * for any state.", ten, Sentences.text("A>J/5;J>B/5;*>A/5", -1),
            "load() = 3; steps(0, 9) = 1; steps(9, 1) = 1; steps(0, 1) = 2; steps(5, 0) = 1; steps(5, 1) = 3; steps(0, 5) = -1; tick(5); state() = 9\n");
        faults("A state is a capital letter, A for state 0, B for state 1, and so on; a place is a state, or * for any state.", EdgesOfParts.ONE, "A>A/5", -1, "B>A/5", 0, "A>B/5", 2, "*>A/5", -1, "*>B/5", 2);
        String eight = EdgesOfParts.ONE + Sentences.times(8, "addParameter(0)");
        String letters = "A parameter is a letter from a to h, a for parameter 0, and so on; an operator is >, <, = or # (not equal to).";
        faults(letters, eight, "A>A/5?a=1", -1, "A>A/5?h=1", -1, "A>A/5?i=1", 6, "A>A/5?`=1", 6, "A>A/5?H=1", 6, "A>A/5?0=1", 6, "A>A/5?h>1", -1, "A>A/5?h<1", -1, "A>A/5?h#1", -1, "A>A/5?h!1", 7, "A>A/5?h$1", 7, "A>A/5?h;1", 7, "A>A/5?h?1", 7, "A>A/5?h==1", 8, "A>A/5?h<>1", 8);
        Sentences.test(letters, eight, Sentences.text("A>A/5?h>3;A>A/5?h<3;A>A/5?h=3;A>A/5?h#3;A>A/5?a=3", -1), "load() = 5; set(7, 2); blocked(0) = 3; blocked(1) = 0; blocked(2) = 3; blocked(3) = 0; blocked(4) = 3\n",
            "set(7, 3); blocked(0) = 3; blocked(1) = 3; blocked(2) = 0; blocked(3) = 3; blocked(4) = 3; set(7, 4); blocked(0) = 0; blocked(1) = 3; blocked(2) = 3; blocked(3) = 0; set(0, 3); blocked(4) = 0\n");
        faults("States and parameters must exist.", BASE, "B>A/5", -1, "C>A/5", 0, "A>C/5", 2, "A>B/5?c", -1, "A>B/5?d", 6, "A>B/5?h", 6, "A>B/5;C>A/5", 6, "A>B/5;A>C/5", 8, "A>B/5?b?d", 8);
        Sentences.test("States and parameters must exist.", "addClip(10); addClipNode(0)\n", Sentences.text("A>B/5?a", 0), "addState(0, 100, true, 0) = 0; fault() = 2; addState(0, 100, true, 0) = 1; fault() = 6; addParameter(1) = 0; fault() = -1; load() = 1\n");
        faults("States and parameters must exist.", "addParameter(1)\n", "A>A/5", 0, "*>A/5", 2);
    }

    private static void numbers() {
        faults("A number has 1 to 3 digits.", BASE, "A>B/", 4, "A>B/5", -1, "A>B/05", -1, "A>B/005", -1, "A>B/0005", 4, "A>B/00000", 4, "A>B/5@", 6, "A>B/5@0", -1, "A>B/5@000", -1, "A>B/5@0000", 6, "A>B/5+09", -1, "A>B/5+0009", 6, "A>B/5!004", -1, "A>B/5!0004", 6,
            "A>B/5?a>000", -1, "A>B/5?a>0000", 8, "A>B/5?a>-007", -1, "A>B/5?a>-0007", 9, "A>B/:", 4, "A>B//", 4);
        Sentences.test("A number has 1 to 3 digits.", BASE, Sentences.text("A>B/060@300+099!004?a>-010", -1), "load() = 1; set(0, -10); blocked(0) = 2; setTiming(0, 0, 99) = 300; blocked(0) = 3; set(0, -9); blocked(0) = 0; setInterruption(0, 0, false) = 4; tick(59); elapsed() = 59; tick(1); transition() = -1\n");
    }

    private static void meanings() {
        String behind = "The number behind / is the duration; @ gives the exit, + the start, ! the mode, o the mark \"ordered\", ? a condition.";
        Sentences.test(behind, BASE, Sentences.text("A>B/0;A>B/60", -1), "load() = 2; foretell(1) = 1; addCondition(0, 1, 2, 1); tick(59); elapsed() = 59; transition() = 1; tick(1); transition() = -1\n");
        Sentences.test(behind, BASE, Sentences.text("A>B/9@5+50;A>B/9@0;A>B/9@300;A>B/9", -1), "load() = 4; blocked(0) = 2; blocked(1) = 0; blocked(2) = 2; blocked(3) = 0; setTiming(1, 300, 0) = 0; setTiming(2, 300, 0) = 300; setTiming(3, 300, 0) = -1; tick(1); progress(false) = 50000; blocked(0) = 0; tick(1); transition() = 0; progress(true) = 600000\n");
        Sentences.test(behind, BASE, Sentences.text("A>B/9+0;A>B/9+99", -1), "load() = 2; tick(1); progress(true) = 100000; reset(); setTiming(0, 300, 0) = -1; tick(1); transition() = 1; progress(true) = 1090000\n");
        Sentences.test(behind, BASE, Sentences.text("A>B/9!0;A>B/9!4;A>B/9!1;A>B/9", -1), "load() = 4; setInterruption(0, 0, false) = 0; setInterruption(1, 0, false) = 4; setInterruption(2, 0, false) = 1; setInterruption(3, 0, false) = 0\n");
        Sentences.test(behind, BASE, Sentences.text("A>B/9!1o;A>B/9?b", -1), "load() = 2; tick(1); transition() = 0; set(1, 1); blocked(1) = 1; setInterruption(0, 1, false); blocked(1) = 0\n");
        Sentences.test(behind, BASE, Sentences.text("A>B/9!1;A>B/9?b", -1), "load() = 2; tick(1); transition() = 0; set(1, 1); blocked(1) = 0\n");
        Sentences.test(behind, BASE, Sentences.text("A>B/9?a>2?b?c;A>B/9?c", -1), "load() = 2; blocked(0) = 3; set(0, 3); blocked(0) = 4; set(1, 1); blocked(0) = 5; blocked(1) = 3; set(2, 1); blocked(0) = 0; blocked(1) = 0\n", Sentences.state("addCondition(0, 1, 2, 1)"), "addCondition(1, 1, 2, 1) = 2; tick(1); value(2) = 0\n");
        Sentences.test(behind, BASE, Sentences.text("A>B/9?a=-100;A>B/9?a=100;A>B/9?a#-0", -1), "load() = 3; blocked(0) = 3; blocked(1) = 3; blocked(2) = 3; set(0, -100); blocked(0) = 0; blocked(2) = 0; set(0, 100); blocked(1) = 0; blocked(0) = 3\n");
        // The attributes of a transition are not those of the one before it.
        Sentences.test(behind, BASE, Sentences.text("A>B/9@3+4!2o?b;A>B/9", -1), "load() = 2; setTiming(1, 0, 0) = -1; setInterruption(1, 0, false) = 0; addCondition(1, 1, 2, 0) = 1; addCondition(0, 1, 2, 0) = 2; setTiming(0, 0, 0) = 3; setInterruption(0, 0, false) = 2\n");
        Sentences.test(behind, BASE, Sentences.text("A>B/9+50o?b;A>B/9!1;A>B/9?b", -1), "load() = 3; tick(1); transition() = 1; progress(true) = 100000; blocked(0) = 3; blocked(2) = 3\n");
    }

    private static void kinds() {
        String kinds = "For a switch the conditions are a parameter (its value is 1) or ~ and a parameter (0), for a trigger only a parameter (its value is 1), for a number only those with an operator.";
        faults(kinds, BASE, "A>B/5?b", -1, "A>B/5?~b", -1, "A>B/5?b=1", 7, "A>B/5?b>0", 7, "A>B/5?b#", 7, "A>B/5?~b=1", 8, "A>B/5?c", -1, "A>B/5?~c", 7, "A>B/5?c=1", 7, "A>B/5?a=1", -1, "A>B/5?a", 7, "A>B/5?a;A>B/5", 7, "A>B/5?a?b", 7, "A>B/5?ao", 7, "A>B/5?~a", 7, "A>B/5?~a=1", 7);
        Sentences.test(kinds, BASE, Sentences.text("A>B/5?b;A>B/5?~b;A>B/5?c", -1), "load() = 3; blocked(0) = 3; blocked(1) = 0; blocked(2) = 3; set(1, 1); blocked(0) = 0; blocked(1) = 3; set(2, 1); blocked(2) = 0; tick(1); value(2) = 1; transition() = 0\n");
    }

    private static void howOften() {
        String often = "Each of @ + ! o occurs at most once in a transition, ? at most three times; @ does not occur behind the place *.";
        faults(often, BASE, "A>B/5@1", -1, "A>B/5@1@1", 7, "A>B/5@1o@1", 8, "A>B/5+1", -1, "A>B/5+1+1", 7, "A>B/5!1!1", 7, "A>B/5!1?b!1", 9, "A>B/5o", -1, "A>B/5oo", 6, "A>B/5o+1o", 8, "A>B/5@1;A>B/5@1", -1, "A>B/5o;A>B/5o", -1, "A>B/5+1;A>B/5+1", -1, "A>B/5!1;A>B/5!1", -1);
        faults(often, BASE, "A>B/5?b?b", -1, "A>B/5?b?b?b", -1, "A>B/5?b?b?b?b", 11, "A>B/5?b?~b?a>1?c", 14, "A>B/5?b?b?bo?b", 12, "A>B/5?b?b?b;A>B/5?b?b?b", -1, "A>B/5?b?b?b;A>B/5?b?b?b?b", 23);
        faults(often, BASE, "*>B/5@1", 5, "*>B/5@", 5, "*>B/5o@1", 6, "*>B/5+1!1o?b", -1, "A>B/5@1;*>B/5@1", 13, "*>B/5;A>B/5@1", -1);
    }

    private static void blanks() {
        String blank = "Blanks (32) may stand anywhere except within a number.";
        faults(blank, BASE, " A > B / 5 @ 1 + 2 ! 3 o ? ~ b ? a > - 7 ? c ; * > A / 6 ", -1, "  A>B/5", -1, "A>B/5  ", -1, "A>B/1 2", 6, "A>B/ 1 2", 7, "A>B/12 ", -1, "A>B/5@1 0", 8, "A>B/5+1 0", 8, "A>B/5! 0 4", 9, "A>B/5?a>1 0", 10, "A>B/5?a>- 1 0", 12, "A>B/6 1", 6, "A>B/1 2 ;A>B/5", 6);
        Sentences.test(blank, BASE, "text \"A>B/5\"\n", "type(9) = 6; fault() = 5; clearText() = 6\n", "type(9) = 1; fault() = 0; clearText() = 1; type(160) = 1; fault() = 0; clearText() = 1; type(0) = 1; fault() = 0; clearText() = 1; type(31) = 1; fault() = 0; clearText() = 1; type(33) = 1; fault() = 0\n");
        Sentences.test(blank, BASE, Sentences.text(" A > B / 50 @ 1 + 2 ! 3 o ? ~ b ? a > - 7 ? c ; * > A / 6 ", -1), "load() = 2; set(2, 1); setInterruption(0, 0, false) = 3; setTiming(0, NONE, 2) = 1; blocked(0) = 0; set(0, -7); blocked(0) = 4; set(0, -6); tick(1); transition() = 0; progress(true) = 120000; tick(48); elapsed() = 49; tick(1); transition() = -1\n");
    }

    private static void places() {
        String first = "The fault of the text is the index, from 0, of the first byte that cannot stand at its place.";
        faults(first, BASE, "xA>B/5", 0, "A>B/5x", 5, "A>B/5;A>B/5x", 11, "A>B/5o;A>x/5x", 9, "A>B/5oo;x", 6, "A>B/5", -1);
        // Bytes that look like an end, or that a longer text has left behind, are told from the end of the text.
        for (int code : new int[] {0, 10, 48 + 128, 59 + 128, 255}) Sentences.test(first, BASE, Sentences.text("A>B/5", -1), "type(" + code + ") = 6; fault() = 5\n", Sentences.state("load()"));
        Sentences.test(first, BASE, Sentences.text("A>B/61;B>A/5", 4), Sentences.text("A>B/6", -1), "load() = 1; tick(5); elapsed() = 5; tick(1); transition() = -1; state() = 1\n");
        Sentences.test(first, BASE, "type(0) = 1; fault() = 0; clearText() = 1; type(255) = 1; fault() = 0; clearText() = 1; type(193) = 1; fault() = 0\n", Sentences.state("load()"));
        Sentences.test(first, BASE, Sentences.text("A>B/5" + "?b".repeat(3) + " ".repeat(138), -1), "type(120) = 150; fault() = 149\n");
        String told = "so > can stand even if no state could follow, and ~ even if no parameter is a switch; but a state or a parameter can stand only if it exists and is of a kind that is allowed there.)";
        faults(told, "", "*", 1, "*>", 2, "*>A", 2, "*/", 1, "A", 0, "*<", 1);
        faults(told, EdgesOfParts.ONE, "A>A/5?", 6, "A>A/5?~", 7, "A>A/5?~a", 7, "A>A/5?a", 6, "A>A/5?~~", 7);
        faults(told, EdgesOfParts.ONE + "addParameter(0); addParameter(2)\n", "A>A/5?~", 7, "A>A/5?~a", 7, "A>A/5?~b", 7, "A>A/5?b", -1, "A>A/5?a", 7, "A>A/5?a=", 8);
        faults(told, BASE, "A>", 2, "A>C", 2, "A>B/5?~b", -1, "A>B/5?~d", 7);
    }

    private static void ranges() {
        String range = "For a number that is out of its range, or has more than 3 digits, the fault is its first digit (a value below -100 cannot occur, as 100 is the greatest number there).";
        faults(range, BASE, "A>B/0", -1, "A>B/60", -1, "A>B/61", 4, "A>B/999", 4, "A>B/061", 4, "A>B/ 61", 5, "A>B/61x", 4, "A>B/1000", 4, "A>B/0010;", 4, "A>B/99999999999999999999", 4, "A>B/4294967301", 4);
        faults(range, BASE, "A>B/5@0", -1, "A>B/5@300", -1, "A>B/5@301", 6, "A>B/5@999", 6, "A>B/5@1000", 6, "A>B/5@ 301", 7, "A>B/5+99", -1, "A>B/5+100", 6, "A>B/5!4", -1, "A>B/5!5", 6, "A>B/5!10", 6, "A>B/5! 5", 7);
        faults(range, BASE, "A>B/5?a>100", -1, "A>B/5?a>101", 8, "A>B/5?a>-100", -1, "A>B/5?a>-101", 9, "A>B/5?a>- 101", 10, "A>B/5?a>-1000", 9, "A>B/5?a=0100", 8, "A>B/5?a>-0", -1, "A>B/5?a> 101x", 9);
        // Until the fourth digit stands, there is no fault.
        Sentences.test(range, BASE, Sentences.text("A>B/006", -1), "type(48) = 8; fault() = 4\n", Sentences.state("load()"), "count(7) = 8\n");
    }

    private static void room() {
        String full = "A transition that would be the 25th one cannot stand at its first byte.";
        String all = "A>B/5;".repeat(23) + "A>B/5";
        Sentences.test(full, BASE, Sentences.text(all, -1), "load() = 24; count(4) = 24; fault() = 0; type(65) = 1; fault() = 0\n", Sentences.state("load()"));
        Sentences.test(full, BASE, Sentences.text(all + ";", 144), "type(32) = 145; fault() = 145; type(66) = 146; fault() = 145; type(62) = 147; fault() = 145\n");
        Sentences.test(full, BASE, Sentences.times(23, "addTransition(0, 1, 5)"), Sentences.text("A>B/5", -1), Sentences.text("A>B/5;*", 6), Sentences.text("A>B/5;", 6), Sentences.text("A>B/5; B>A/5", 7), Sentences.text("A>B/5x", 5), "addTransition(0, 1, 5) = 23; fault() = 0\n");
        Sentences.test(full, BASE, Sentences.times(24, "addTransition(0, 1, 5)"), Sentences.text("A>B/5", 0), Sentences.text("  A", 2), Sentences.text("  ", 2), Sentences.text("", 0), Sentences.text("x", 0), Sentences.state("load()"), "count(7) = 1\n");
        Sentences.test(full, BASE, Sentences.times(22, "addTransition(0, 1, 5)"), Sentences.text("A>B/5;B>A/5", -1), Sentences.text("A>B/5;B>A/5;A>B/5", 12), Sentences.text("A>B/5;x", 6));
    }

    private static void early() {
        String early = "If the text ends too early (also if it is empty), the fault is its length.";
        faults(early, BASE, "", 0, " ", 1, "   ", 3, "A", 1, "A ", 2, "*", 1, "A>", 2, "A>B", 3, "A>B ", 4, "A>B/", 4, "A>B/ ", 5, "A>B/5", -1, "A>B/5;", 6, "A>B/5; ", 7, "A>B/5@", 6, "A>B/5@ ", 7, "A>B/5+", 6, "A>B/5!", 6, "A>B/5?", 6, "A>B/5? ", 7, "A>B/5?~", 7, "A>B/5?a", 7, "A>B/5?a ", 8, "A>B/5?a<", 8, "A>B/5?a<-", 9, "A>B/5?b", -1);
        Sentences.test(early, "fault() = 0\n", Sentences.state("load()"), "type(42) = 1; fault() = 1\n", Sentences.state("load()"), "clearText() = 1; fault() = 0\n");
        Sentences.test(early, BASE, Sentences.text("A>B/5;" + " ".repeat(144), 150), "clearText() = 150\n", Sentences.text(" ".repeat(150), 150), Sentences.state("load()"));
    }
}
