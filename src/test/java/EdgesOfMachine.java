/** The boundaries that the description names for the machine, and for poses. */
final class EdgesOfMachine {
    /** Three states of 10 ticks with a clip of its own each, and two triggers. */
    private static final String THREE = RunTest.THREE;

    private EdgesOfMachine() {
    }

    static void test() {
        Sentences.in("The machine");
        beginning();
        shares();
        lists();
        candidatesInATransition();
        mayBeInterruptedTwice();
        possible();
        taking();
        targets();
        fourTimes();
        steps();
        ending();
        firing();
        heavyEnough();
        passing();
        kept();
        poses();
        frozenPoses();
        largestPose();
    }

    private static void beginning() {
        Sentences.test("When the first state is added, the machine becomes idle in it", "addClip(10); addEvent(0, 0, 7); addClipNode(0)\n", Sentences.state("state()", "progress(false)", "tick(1)"),
            "poseSize() = 0; addState(0, 100, true, 0) = 0; state() = 0; target() = -1; transition() = -1; elapsed() = -1; isFrozen() = false; progress(false) = 0; poseSize() = 1; count(5) = 0\n",
            Sentences.state("progress(true)"), "addState(0, 300, true, 0) = 1; state() = 0; progress(false) = 0; tick(1) = 1; progress(false) = 100000; addState(0, 300, true, 0) = 2; state() = 0; progress(false) = 100000\n");
        Sentences.test("The machine is either idle, with one track", THREE, "addTransition(0, 1, 2); setTiming(0, 10, 30); tick(1); state() = 0; target() = -1; progress(false) = 100000\n", Sentences.state("progress(true)"),
            "tick(1); state() = 0; target() = 1; elapsed() = 1; progress(false) = 200000; progress(true) = 400000; tick(1); state() = 1; target() = -1; elapsed() = -1; progress(false) = 500000\n", Sentences.state("progress(true)"));
        Sentences.test("Then the state of the source track is the source state, that of the target track the target state.", THREE, "addTransition(0, 2, 5) = 0; setInterruption(0, 2, false); addTransition(2, 1, 5) = 1; addCondition(1, 0, 2, 1)\n",
            "tick(1); state() = 0; target() = 2; set(0, 1); tick(1); isFrozen() = true; state() = 2; target() = 1; tick(4); state() = 1; target() = -1\n");
    }

    private static void shares() {
        String share = "The share of the target is WHOLE * elapsed / duration, that of the source WHOLE minus this.";
        Sentences.test(share, THREE, "addTransition(0, 1, 60); tick(1)\n", Sentences.pose(0, 1, 983334, 1, 1, 16666), "tick(58); elapsed() = 59\n", Sentences.pose(0, 9, 16667, 1, 9, 983333),
            "tick(1); elapsed() = -1; state() = 1\n", Sentences.pose(1, 0, 1000000));
        Sentences.test(share, THREE, "addTransition(0, 1, 3); tick(1)\n", Sentences.pose(0, 1, 666667, 1, 1, 333333), "tick(1)\n", Sentences.pose(0, 2, 333334, 1, 2, 666666), "tick(1)\n", Sentences.pose(1, 3, 1000000));
        Sentences.test(share, THREE, "addTransition(0, 1, 1); tick(1); state() = 1; transition() = -1\n", Sentences.pose(1, 1, 1000000));
    }

    private static void lists() {
        Sentences.plain("The candidates are transitions in a certain order.");
        // The last two of 24 lead from any state, and come before the others.
        String many = THREE + Sentences.times(22, "addTransition(0, 1, 5)") + "addTransition(ANY, 2, 5) = 22; addTransition(ANY, 2, 5) = 23\n";
        Sentences.test("The list of a state consists of all transitions from any state, in ascending order, and then of all transitions from this state, in ascending order.", many,
            "foretell(1) = 2; tick(1); transition() = 22\n");
        Sentences.test("The list of a state consists of all transitions from any state, in ascending order, and then of all transitions from this state, in ascending order.", many,
            "addCondition(22, 0, 2, 1); tick(1); transition() = 23\n");
        Sentences.test("The list of a state consists of all transitions from any state, in ascending order, and then of all transitions from this state, in ascending order.", many,
            "addCondition(22, 0, 2, 1); addCondition(23, 0, 2, 1); addCondition(0, 0, 2, 1); tick(1); transition() = 1\n");
        Sentences.test("If the machine is idle, the candidates are the list of the present state, without transitions from any state that lead to the present state.", THREE,
            "addTransition(ANY, 0, 5) = 0; addTransition(ANY, 1, 5) = 1; addTransition(0, 0, 5) = 2; addTransition(1, 0, 5) = 3; addTransition(0, 1, 5) = 4\n",
            "blocked(0) = 1; blocked(1) = 0; blocked(2) = 0; blocked(3) = 1; blocked(4) = 0; addCondition(1, 0, 2, 1); tick(1); transition() = 2; target() = 0\n");
    }

    /** From A to B in transition 1; the others need a trigger, which is off. */
    private static final String WAYS = THREE + "addTransition(0, 2, 5) = 0; addTransition(0, 1, 60) = 1; addTransition(0, 2, 5) = 2; addTransition(ANY, 1, 5) = 3; addTransition(ANY, 0, 5) = 4\n"
        + "addTransition(1, 2, 5) = 5; addTransition(ANY, 2, 5) = 6; addTransition(2, 0, 5) = 7; addTransition(1, 0, 0) = 8\n"
        + "addCondition(0, 0, 2, 1); addCondition(2, 0, 2, 1); addCondition(3, 0, 2, 1); addCondition(4, 0, 2, 1); addCondition(5, 0, 2, 1); addCondition(6, 0, 2, 1); addCondition(7, 0, 2, 1); addCondition(8, 0, 2, 1)\n"
        + "tick(1); transition() = 1; elapsed() = 1\n";

    /** What blocked answers for each transition: 1 for no candidate, 3 for one whose condition does not hold. */
    private static String blocked(String answers) {
        StringBuilder lines = new StringBuilder();
        for (int i = 0; i < answers.length(); i++) lines.append("blocked(" + i + ") = " + answers.charAt(i) + "\n");
        return lines.toString();
    }

    private static void candidatesInATransition() {
        Sentences.test("let the source list be the list of the source state, and the target list the list of the target state", WAYS,
            "setInterruption(1, 1, false)\n", blocked("313131311"), "setInterruption(1, 2, false)\n", blocked("111133313"));
        Sentences.test("both without x and without transitions from any state that lead to the target state", THREE,
            "addTransition(ANY, 1, 60) = 0; addTransition(0, 0, 60) = 1; addTransition(ANY, 0, 5) = 2; addTransition(ANY, 2, 5) = 3; addCondition(0, 0, 2, 1); addCondition(2, 1, 2, 1); addCondition(3, 1, 2, 1)\n",
            "# from A to A: 1 is in both lists, and 2 leads to the target, too\n",
            "setInterruption(1, 3, false); tick(1); transition() = 1; blocked(1) = 1; blocked(2) = 1; blocked(3) = 3; blocked(0) = 3; setInterruption(1, 4, false); blocked(1) = 1; blocked(2) = 1; blocked(3) = 3; blocked(0) = 3\n",
            "# from A to B: 2 leads to the source, and 0, which is x, would lead to the target\n",
            "reset(); set(0, 1); tick(1); transition() = 0; setInterruption(0, 3, false); blocked(0) = 1; blocked(1) = 0; blocked(2) = 3; blocked(3) = 3\n");
        String ordered = "if x is ordered, the source list is also without transitions with a greater number than x.";
        Sentences.test(ordered, WAYS, "setInterruption(1, 1, true)\n", blocked("311111111"), "setInterruption(1, 1, false)\n", blocked("313131311"));
        Sentences.test(ordered, WAYS, "setInterruption(1, 2, true)\n", blocked("111133313"));
        Sentences.test(ordered, WAYS, "setInterruption(1, 3, true)\n", blocked("311133313"), "setInterruption(1, 3, false)\n", blocked("313133313"));
        Sentences.test(ordered, WAYS, "setInterruption(1, 4, true)\n", blocked("311133313"), "setInterruption(1, 4, false)\n", blocked("313133313"));
        // The one of the least number is interrupted by no other of its list, the one of the greatest by all.
        Sentences.test(ordered, THREE, Sentences.times(24, "addTransition(0, 1, 60)"), "setInterruption(0, 1, true); tick(1); transition() = 0; blocked(1) = 1; blocked(23) = 1; setInterruption(0, 1, false); blocked(1) = 0; blocked(23) = 0\n");
        Sentences.test(ordered, THREE, Sentences.times(23, "addTransition(1, 0, 60)"), "addTransition(0, 1, 60) = 23; setTiming(0, NONE, 0); addState(0, 100, true, 0)\n",
            "setInterruption(23, 1, true); tick(1); transition() = 23; blocked(23) = 1; blocked(0) = 1; setInterruption(23, 2, true); blocked(0) = 0; blocked(22) = 0\n");

        String modes = "otherwise, by the mode of x, the candidates are: 0 none; 1 the source list; 2 the target list; 3 the source list, and then those of the target list that are not in the source list; 4 the target list, and then those of the source list that are not in the target list.";
        Sentences.test(modes, WAYS, blocked("111111111"), "set(0, 1)\n", blocked("111111111"), "tick(1); transition() = 1; isFrozen() = false\n");
        String[] sets = {"111111111", "313131311", "111133313", "313133313", "313133313"};
        for (int mode = 0; mode <= 4; mode++) Sentences.test(modes, WAYS, "setInterruption(1, " + mode + ", false)\n", blocked(sets[mode]));
        // 1 from A and 2 from B are possible at once; then only one of them; 3 is in both lists.
        String two = THREE + "addTransition(0, 1, 60) = 0; addTransition(0, 2, 60) = 1; addTransition(1, 2, 60) = 2; addCondition(1, 0, 2, 1); addCondition(2, 0, 2, 1)\n";
        int[] first = {0, 1, 2, 1, 2}, ifNot1 = {0, 0, 2, 2, 2}, ifNot2 = {0, 1, 0, 1, 1}, stays = {0, 0, 1, 0, 1};
        for (int mode = 0; mode <= 4; mode++) {
            String begin = "setInterruption(0, " + mode + ", false); tick(1); transition() = 0; set(0, 1); tick(1); transition() = ";
            Sentences.test(modes, two, begin + first[mode] + "; state() = " + (first[mode] == 2 ? 1 : 0) + "\n");
            Sentences.test(modes, two, "addCondition(1, 1, 2, 1)\n", begin + ifNot1[mode] + "; state() = " + (ifNot1[mode] == 2 ? 1 : 0) + "\n");
            Sentences.test(modes, two, "addCondition(2, 1, 2, 1)\n", begin + ifNot2[mode] + "; state() = 0\n");
            Sentences.test(modes, two, "addTransition(ANY, 2, 60) = 3; addCondition(3, 0, 2, 1)\n", begin + (mode == 0 ? 0 : 3) + "; state() = " + stays[mode] + "\n");
        }
    }

    private static void mayBeInterruptedTwice() {
        String twice = "Then there are no candidates if two interruptions have led to x, one after the other, without the machine being idle in between";
        String circle = THREE + "addParameter(2) = 2; addTransition(0, 1, 60) = 0; addTransition(1, 2, 60) = 1; addTransition(2, 0, 60) = 2; addTransition(0, 2, 60) = 3; addTransition(2, 1, 60) = 4\n"
            + "setInterruption(0, 2, false); setInterruption(1, 2, false); setInterruption(2, 2, false); addCondition(1, 0, 2, 1); addCondition(2, 1, 2, 1); addCondition(3, 2, 2, 1); addCondition(4, 2, 2, 1)\n";
        StringBuilder noModes = new StringBuilder();
        for (int mode = 0; mode <= 4; mode++) noModes.append("setInterruption(2, " + mode + ", false)\n" + blocked("11111") + "set(2, 1)\n" + blocked("11111") + "set(2, 0)\n");
        Sentences.test(twice, circle, "tick(1); transition() = 0; blocked(1) = 3; set(0, 1); tick(1); transition() = 1; isFrozen() = true; blocked(2) = 3; set(1, 1); tick(1); transition() = 2; elapsed() = 1\n",
            noModes.toString(), "tick(58); elapsed() = 59; blocked(0) = 1; tick(1); transition() = -1; state() = 0; blocked(0) = 0; blocked(3) = 3\n",
            "# idle in between: it can be interrupted twice again\n",
            "tick(1); transition() = 0; isFrozen() = false; blocked(1) = 3; set(0, 1); tick(1); transition() = 1; blocked(2) = 3; set(1, 1); tick(1); transition() = 2; blocked(0) = 1\n");
        // A transition of 0 ticks makes the machine idle, so the interruptions before it do not count.
        Sentences.test(twice, THREE, "addParameter(2) = 2; addTransition(0, 1, 60) = 0; addTransition(1, 2, 0) = 1; addTransition(2, 0, 60) = 2; addTransition(1, 0, 60) = 3; setInterruption(0, 2, false); setInterruption(2, 2, false); setInterruption(3, 2, false)\n",
            "addCondition(1, 0, 2, 1); addCondition(2, 1, 2, 1); addCondition(3, 2, 2, 1); tick(1); transition() = 0; set(0, 1); set(1, 1); tick(1); transition() = 0; isFrozen() = true; state() = 0; target() = 1\n",
            "blocked(1) = 3; blocked(3) = 3; set(2, 1); tick(1); transition() = 3; state() = 1; target() = 0; blocked(0) = 1\n");
        // The image and the foretold machine know how many interruptions there were.
        Sentences.test(twice, circle, "tick(1); set(0, 1); tick(1); transition() = 1; keep(0) = 2; set(1, 1); tick(1); transition() = 2; keep(1) = 3; blocked(0) = 1; restore(0) = 2; blocked(2) = 3; restore(1) = 3; blocked(0) = 1; foretell(1) = 0; reset() = 3; tick(1); blocked(1) = 3\n");
    }

    private static void possible() {
        String possible = "A candidate is possible if all its conditions hold, and, if it has an exit, the progress of the track of the state from which it leads is at least its exit * 10000.";
        String two = EdgesOfParts.ONE + "addState(0, 100, true, 0) = 1; addTransition(0, 1, 5) = 0\n";
        Sentences.test(possible, two, "setTiming(0, 0, 0); blocked(0) = 0; setTiming(0, 1, 0); blocked(0) = 2; setTiming(0, NONE, 0); blocked(0) = 0; tick(1); transition() = 0\n");
        Sentences.test(possible, two, "setTiming(0, 10, 0); blocked(0) = 2; tick(1); progress(false) = 100000; transition() = -1; blocked(0) = 0; setTiming(0, 11, 0); blocked(0) = 2; setTiming(0, 9, 0); blocked(0) = 0; tick(1); transition() = 0\n");
        Sentences.test(possible, two, "setTiming(0, 300, 0); tick(29); progress(false) = 2900000; blocked(0) = 2; tick(1); progress(false) = 3000000; transition() = -1; blocked(0) = 0; tick(1); transition() = 0\n");
        Sentences.test(possible, "addClip(3); addClipNode(0); addState(0, 100, true, 0); addState(0, 100, true, 0); addTransition(0, 1, 5); setTiming(0, 100, 0); tick(3); progress(false) = 999999; blocked(0) = 2; tick(1); blocked(0) = 0; transition() = -1; tick(1); transition() = 0\n");
        Sentences.test(possible, EdgesOfParts.CLIP, "addState(0, 100, false, 0); addState(0, 100, true, 0); addTransition(0, 1, 5); setTiming(0, 101, 0); tick(100); progress(false) = 1000000; blocked(0) = 2; setTiming(0, 100, 0); blocked(0) = 0; tick(1); transition() = 0\n");
        Sentences.test(possible, two, "addParameter(1) = 0; addParameter(1) = 1; addParameter(1) = 2; addCondition(0, 0, 2, 1); addCondition(0, 1, 2, 1); addCondition(0, 2, 2, 1); blocked(0) = 3; set(0, 1); blocked(0) = 4; set(1, 1); blocked(0) = 5; tick(1); transition() = -1\n",
            "set(2, 1); blocked(0) = 0; set(0, 0); blocked(0) = 3; set(0, 1); set(1, 0); blocked(0) = 4; set(1, 1); tick(1); transition() = 0\n");
        String tracks = "In a transition this is the source track for a transition that comes from the source list, and the target track for one that comes from the target list";
        String behind = THREE + "addTransition(0, 1, 60) = 0; setTiming(0, 50, 0); addTransition(0, 2, 60) = 1; setTiming(1, 70, 0); addTransition(1, 2, 60) = 2; setTiming(2, 20, 0)\n";
        Sentences.test(tracks, behind, "setInterruption(0, 1, false); tick(6); progress(false) = 600000; progress(true) = 100000; blocked(1) = 2; blocked(2) = 1; tick(1); progress(false) = 700000; blocked(1) = 0; tick(1); transition() = 1; progress(false) = 700000\n");
        Sentences.test(tracks, behind, "setInterruption(0, 2, false); tick(6); blocked(2) = 2; blocked(1) = 1; tick(1); progress(true) = 200000; blocked(2) = 0; tick(1); transition() = 2; progress(false) = 200000\n");
        Sentences.test(tracks, behind, "setInterruption(0, 3, false); tick(6); blocked(1) = 2; blocked(2) = 2; tick(1); blocked(1) = 0; blocked(2) = 0; tick(1); transition() = 1\n");
        Sentences.test(tracks, behind, "setInterruption(0, 4, false); tick(6); blocked(1) = 2; blocked(2) = 2; tick(1); blocked(1) = 0; blocked(2) = 0; tick(1); transition() = 2\n");
        // From A to A: transition 1 is in both lists, and the source has gone 600000, the target 100000.
        String both = THREE + "addTransition(0, 0, 60) = 0; setTiming(0, 50, 0); addTransition(0, 1, 60) = 1; setTiming(1, 60, 0)\n";
        for (int mode = 1; mode <= 4; mode++) {
            boolean fromSource = mode == 1 || mode == 3;
            Sentences.test("(one that is in both lists comes from the source list in the modes 1 and 3, and from the target list in the modes 2 and 4)", both, "setInterruption(0, " + mode + ", false)\n",
                "tick(6); transition() = 0; progress(false) = 600000; progress(true) = 100000; blocked(1) = " + (fromSource ? 0 : 2) + "; tick(1); transition() = " + (fromSource ? 1 : 0) + "\n",
                fromSource ? "progress(false) = 600000\n" : "tick(4); transition() = 0; progress(true) = 600000; blocked(1) = 0; tick(1); transition() = 1; progress(false) = 600000; setTiming(1, 61, 0)\n");
        }
    }

    private static void taking() {
        Sentences.test("To take a possible candidate y: all parameters that are triggers and occur in its conditions become 0.", THREE,
            "addParameter(1) = 2; addParameter(2) = 3; addParameter(0) = 4; addTransition(0, 1, 5) = 0; addTransition(0, 2, 5) = 1; addCondition(0, 0, 2, 1); addCondition(0, 2, 2, 1); addCondition(0, 1, 2, 1); addCondition(1, 3, 2, 1); addCondition(1, 4, 2, 1)\n",
            "set(0, 1); set(1, 1); set(2, 1); set(3, 1); set(4, 1); blocked(0) = 0; blocked(1) = 0; tick(1); transition() = 0; value(0) = 0; value(1) = 0; value(2) = 1; value(3) = 1; value(4) = 1\n");
        Sentences.test("To take a possible candidate y: all parameters that are triggers and occur in its conditions become 0.", THREE,
            "addTransition(0, 1, 5) = 0; addCondition(0, 0, 2, 1); addCondition(0, 1, 2, 1); set(0, 1); tick(1); transition() = -1; value(0) = 1; set(1, 1); foretell(1) = 1; value(0) = 1; tick(1); value(0) = 0; value(1) = 0\n");
        // Triggers that the conditions do not name stay, however few conditions there are.
        Sentences.test("To take a possible candidate y: all parameters that are triggers and occur in its conditions become 0.", THREE,
            "addTransition(0, 1, 0) = 0; addTransition(1, 2, 0) = 1; setTiming(1, 20, 0); addCondition(1, 1, 2, 1); set(0, 1); set(1, 1); tick(1); state() = 1; value(0) = 1; value(1) = 1; tick(2); state() = 2; value(0) = 1; value(1) = 0\n");
        Sentences.test("If the machine is idle, its track becomes the source.", THREE, "addTransition(0, 1, 5); setTiming(0, 30, 50); tick(3); state() = 0; progress(false) = 300000; tick(1); state() = 0; isFrozen() = false; progress(false) = 400000; progress(true) = 600000\n");
        // A at 300000 with the share 700000, and B, which began at 500000, at 800000.
        String three = THREE + "addTransition(0, 1, 10) = 0; setTiming(0, NONE, 50); addTransition(0, 2, 10) = 1; addTransition(1, 2, 10) = 2; addCondition(1, 0, 2, 1); addCondition(2, 1, 2, 1); setInterruption(0, 3, false); tick(3)\n"
            + Sentences.pose(0, 3, 700000, 1, 8, 300000);
        String taken = Sentences.pose(0, 3, 630000, 1, 8, 270000, 2, 1, 100000) + "isFrozen() = true; elapsed() = 1; target() = 2; progress(true) = 100000\n";
        Sentences.test("this is an interruption: the present pose (see below) is frozen and becomes the source", three, "set(0, 1); tick(1); transition() = 1\n", taken);
        Sentences.test("its source track is the present source track if y comes from the source list", three, "set(0, 1); tick(1); transition() = 1; state() = 0; progress(false) = 300000; tick(3); progress(false) = 300000; state() = 0\n");
        Sentences.test("otherwise the present target track.", three, "set(1, 1); tick(1); transition() = 2\n", taken, "state() = 1; progress(false) = 800000; tick(3); progress(false) = 800000; state() = 1\n");
        // Frozen already: the source track that is not played any more stays the one of the source list.
        Sentences.test("its source track is the present source track if y comes from the source list", three, "setTiming(0, 300, 50); setInterruption(1, 1, false); addTransition(0, 0, 20) = 3; addCondition(3, 1, 2, 1); set(0, 1); tick(1); transition() = 1; blocked(3) = 3\n",
            "set(1, 1); tick(1); transition() = 3; state() = 0; target() = 0; isFrozen() = true; progress(false) = 300000; progress(true) = 100000\n");
    }

    private static void targets() {
        // The target advances by 20 in a tick, so that the phase with which it began can be told.
        String slow = "addClip(10); addClip(500); addClipNode(0); addClipNode(1); addState(0, 100, true, 0); addState(1, 1, true, 0); addTransition(0, 1, 60)\n";
        String start = "The target becomes a new track of the state to which y leads, with the cycles 0, and with the phase start * 10000";
        Sentences.test(start, slow, "tick(1); progress(true) = 20\n");
        Sentences.test(start, slow, "setTiming(0, NONE, 1); tick(1); progress(true) = 10020\n");
        Sentences.test(start, slow, "setTiming(0, 250, 99); tick(25); target() = -1; tick(1); progress(true) = 990020; progress(false) = 2600000\n");
        Sentences.test(start, "addClip(10); addClip(10); addEvent(1, 4, 4); addEvent(1, 5, 5); addClipNode(0); addClipNode(1); addState(0, 100, true, 0); addState(1, 100, true, 0); addTransition(0, 1, 60); setTiming(0, NONE, 50)\n",
            "# a new track is fresh\n", "tick(1) = 1; event(0, 1) = 5\n");
        String synced = "but if the source is not frozen, and the source state and the target state have the same group, not 0, it gets the phase of the source track instead";
        int[][] groups = {{0, 0}, {1, 1}, {3, 3}, {1, 2}, {0, 1}, {3, 0}};
        for (int[] g : groups) {
            boolean isSynced = g[0] == g[1] && g[0] != 0;
            Sentences.test(synced, EdgesOfParts.CLIP, "addState(0, 100, true, " + g[0] + "); addState(0, 100, true, " + g[1] + "); addTransition(0, 1, 5); setTiming(0, 230, 50); tick(23); progress(false) = 2300000\n",
                "# the cycles are not taken over\n", "tick(1); progress(false) = 2400000; progress(true) = " + (isSynced ? 400000 : 600000) + "; tick(3); progress(true) = " + (isSynced ? 700000 : 900000) + "\n");
        }
        Sentences.test(synced, EdgesOfParts.CLIP, "addParameter(2); addState(0, 100, true, 3); addState(0, 100, true, 3); addState(0, 50, true, 3); addTransition(0, 1, 9); setInterruption(0, 2, false); addTransition(1, 2, 9); addCondition(1, 0, 2, 1); setTiming(1, NONE, 30)\n",
            "tick(4); progress(true) = 400000; set(0, 1); tick(1); isFrozen() = true; progress(true) = 350000\n");
        String one = "(WHOLE - 1 if that is WHOLE and the target state loops).";
        String ended = EdgesOfParts.CLIP + "addState(0, 100, false, 1); addState(0, 1, true, 1); addState(0, 1, false, 1); addTransition(0, 1, 0); addTransition(0, 2, 0); setTiming(0, 100, 5); setTiming(1, 100, 5)\n";
        Sentences.test(one, ended, "tick(10); state() = 0; progress(false) = 1000000; tick(1); state() = 1; progress(false) = 1000999\n");
        Sentences.test(one, ended, "addParameter(1); addCondition(0, 0, 2, 1); tick(11); state() = 2; progress(false) = 1000000\n");
        Sentences.test(one, "addClip(3); addClipNode(0); addState(0, 100, false, 1); addState(0, 1, false, 1); addTransition(0, 1, 0); setTiming(0, 99, 5); tick(3); progress(false) = 999999; tick(1); state() = 1; progress(false) = 1000000\n");
        Sentences.test(one, "addClip(3); addClipNode(0); addState(0, 100, true, 1); addState(0, 1, true, 1); addTransition(0, 1, 0); setTiming(0, 99, 5); tick(3); progress(false) = 999999; tick(1); state() = 1; progress(false) = 1003332\n");
        String at0 = "If the duration of y is 0, the target becomes the only track, and the machine is idle; otherwise it is in the transition y, with the elapsed time 0.";
        String chain = THREE + "addTransition(1, 2, 0) = 0; addTransition(0, 1, 0) = 1\n";
        Sentences.test(at0, chain, "tick(1); state() = 2; transition() = -1; progress(false) = 100000\n", Sentences.state("progress(true)"), Sentences.pose(2, 1, 1000000));
        Sentences.test(at0, THREE, "addTransition(1, 2, 0) = 0; addTransition(0, 1, 1) = 1; addEvent(0, 0, 5); setThreshold(0); tick(1) = 0; state() = 1; transition() = -1; progress(false) = 100000; tick(1); state() = 2; progress(false) = 100000\n");
        Sentences.test(at0, THREE, "addTransition(0, 1, 2) = 0; tick(1); transition() = 0; elapsed() = 1; tick(1); transition() = -1\n");
        // At the elapsed time 0 the target has no share, so the frozen pose is that of the source alone.
        Sentences.test(at0, THREE, "addTransition(0, 1, 2) = 0; setInterruption(0, 2, false); addTransition(1, 2, 4) = 1; tick(1); transition() = 1; state() = 1; progress(false) = 0\n", Sentences.pose(0, 0, 750000, 2, 1, 250000));
        Sentences.test(at0, THREE, "addTransition(0, 1, 1) = 0; setInterruption(0, 2, false); addTransition(1, 2, 4) = 1; tick(1); transition() = 1; state() = 1; progress(false) = 0\n", Sentences.pose(0, 0, 750000, 2, 1, 250000));
    }

    private static void fourTimes() {
        Sentences.plain("A tick consists of these steps:");
        String four = "Four times: if some candidate is possible, the first one of these is taken; otherwise nothing is done.";
        String chain = EdgesOfParts.CLIP + Sentences.times(10, "addState(0, 100, true, 0)");
        for (int ways = 1; ways <= 6; ways++) {
            StringBuilder calls = new StringBuilder();
            for (int i = 0; i < ways; i++) calls.append("addTransition(" + i + ", " + (i + 1) + ", 0)\n");
            Sentences.test(four, chain, calls.toString(), "tick(1); state() = " + Math.min(4, ways) + "; progress(false) = 100000; tick(1); state() = " + ways + "; progress(false) = " + (ways > 4 ? 100000 : 200000) + "\n");
        }
        Sentences.test(four, chain, "tick(1); state() = 0; progress(false) = 100000\n");
        Sentences.test(four, chain, "addTransition(0, 0, 0); tick(1); state() = 0; progress(false) = 100000; tick(1); progress(false) = 100000\n");
        // An idle machine, two interruptions, and then there are no candidates any more.
        Sentences.test(four, chain, "addTransition(0, 1, 9); addTransition(1, 2, 9); addTransition(2, 3, 9); addTransition(3, 4, 9); setInterruption(0, 2, false); setInterruption(1, 2, false); setInterruption(2, 2, false); tick(1); transition() = 2; elapsed() = 1; state() = 2; target() = 3\n");
        // Three of 0 ticks, and a fourth one of 5, which could be interrupted in the next tick alone.
        Sentences.test(four, chain, "addTransition(0, 1, 0); addTransition(1, 2, 0); addTransition(2, 3, 0); addTransition(3, 4, 5); setInterruption(3, 2, false); addTransition(4, 5, 5); tick(1); transition() = 3; elapsed() = 1; isFrozen() = false; tick(1); transition() = 4; isFrozen() = true\n");
    }

    private static void steps() {
        Sentences.test("If the machine is idle, its track is advanced by its step.", EdgesOfParts.CLIP, "addState(0, 37, true, 2); tick(1); progress(false) = 37000; tick(2); progress(false) = 111000\n");
        String together = "Otherwise, if the source is not frozen, and the source state and the target state have the same group, not 0, both tracks are advanced by the step WHOLE * S / (100 * L)";
        // S is 100, 100.3 and 100.6, and L is 10, 10.3 and 10.6, each rounded down; then B alone goes 91818.
        String near = "addClip(10); addClip(11); addClipNode(0); addClipNode(1); addState(0, 100, true, 2); addState(1, 101, true, 2); addTransition(0, 1, 3)\n";
        Sentences.test(together, near, "tick(1); progress(false) = 100000; progress(true) = 100000; tick(1); progress(false) = 200000; progress(true) = 200000; tick(1); target() = -1; progress(false) = 300000; tick(1); progress(false) = 391818\n");
        // S is 100, 125, 150, 175 and L is 20, 17, 15, 12, the shares being those before the tick.
        Sentences.test(together, "addClip(20); addClip(10); addClipNode(0); addClipNode(1); addState(0, 100, true, 1); addState(1, 200, true, 1); addTransition(0, 1, 4)\n",
            "tick(1); progress(true) = 50000; tick(1); progress(true) = 123529; tick(1); progress(true) = 223529; progress(false) = 223529; tick(1); progress(false) = 369362; tick(1); progress(false) = 569362\n");
        // From the slowest to the fastest: 1 of 500, then S is 7 and L is 491, and then 14 and 483.
        Sentences.test(together, "addClip(500); addClip(1); addClipNode(0); addClipNode(1); addState(0, 1, true, 3); addState(1, 400, true, 3); addTransition(0, 1, 60)\n",
            "tick(1); progress(true) = 20; progress(false) = 20; tick(1); progress(true) = 162; tick(1); progress(true) = 451; tick(57); target() = -1; state() = 1\n");
        // In its only tick a transition of the duration 1 has the elapsed time 0, and so the step of the source.
        Sentences.test(together, "addClip(10); addClip(20); addClipNode(0); addClipNode(1); addState(0, 100, true, 1); addState(1, 50, true, 1); addTransition(0, 1, 1); tick(1); state() = 1; transition() = -1; progress(false) = 100000; tick(1); progress(false) = 125000\n");
        Sentences.test(together, EdgesOfParts.CLIP, "addState(0, 100, true, 0); addState(0, 50, true, 0); addTransition(0, 1, 9); tick(4); progress(false) = 400000; progress(true) = 200000\n");
        Sentences.test(together, EdgesOfParts.CLIP, "addState(0, 100, true, 1); addState(0, 50, true, 2); addTransition(0, 1, 9); tick(4); progress(false) = 400000; progress(true) = 200000\n");
        Sentences.test(together, EdgesOfParts.CLIP, "addState(0, 100, false, 1); addState(0, 100, true, 1); addTransition(0, 1, 9); setTiming(0, 80, 0); tick(8); progress(false) = 800000; tick(3); progress(false) = 1000000; progress(true) = 1100000\n");
        String apart = "Otherwise the source track is advanced by its step, unless the source is frozen, and the target track is advanced by its step.";
        Sentences.test(apart, "addParameter(2)\n", EdgesOfParts.CLIP, "addState(0, 100, true, 1); addState(0, 50, true, 2); addState(0, 25, true, 2); addTransition(0, 1, 60); setInterruption(0, 2, false); addTransition(1, 2, 3); addCondition(1, 0, 2, 1)\n",
            "tick(1); progress(false) = 100000; progress(true) = 50000; tick(1); progress(false) = 200000; progress(true) = 100000; set(0, 1)\n",
            "# frozen, and both of the group 2\n", "tick(1); isFrozen() = true; progress(false) = 100000; progress(true) = 25000; tick(1); progress(false) = 100000; progress(true) = 50000; tick(1); target() = -1; progress(false) = 75000\n");
    }

    private static void ending() {
        String ends = "If the machine is in a transition, the elapsed time increases by 1; if it is the duration then, the machine becomes idle with the target track.";
        Sentences.test(ends, THREE, "addTransition(0, 1, 60); tick(1); elapsed() = 1; tick(58); elapsed() = 59; transition() = 0; progress(true) = 5900000; tick(1); elapsed() = -1; transition() = -1; state() = 1; progress(false) = 6000000\n");
        Sentences.test(ends, THREE, "addTransition(0, 1, 1); tick(1); elapsed() = -1; state() = 1; progress(false) = 100000; tick(1); progress(false) = 200000\n");
        Sentences.test(ends, THREE, "addTransition(0, 1, 2); tick(1); elapsed() = 1; state() = 0; tick(1); elapsed() = -1; state() = 1; progress(false) = 200000\n");
    }

    private static void firing() {
        String order = "Events are fired: first for the source track, if it was advanced in step 2 (also if the transition has ended in step 3), and then for the target track (or the only one).";
        String two = "addClip(10); addClip(10); addClip(10); addEvent(0, 1, 1); addEvent(1, 1, 2); addEvent(0, 2, 3); addEvent(1, 2, 4); addEvent(0, 3, 5); addEvent(1, 3, 6); addClipNode(0); addClipNode(1); addClipNode(2); addParameter(2)\n"
            + "addState(1, 100, true, 0); addState(0, 100, true, 0); addState(2, 100, true, 0); addTransition(0, 1, 2); addTransition(1, 2, 9); addCondition(1, 0, 2, 1); setThreshold(0)\n";
        Sentences.test(order, two, "tick(1) = 2; event(0, 1) = 2; event(0, 3) = 0; event(1, 1) = 1; event(1, 3) = 1\n",
            "# the transition ends: the source has no weight any more\n", "tick(1) = 1; event(2, 1) = 3; event(2, 3) = 1; tick(1) = 1; event(3, 1) = 5\n");
        Sentences.test(order, two, "setInterruption(0, 1, false); addTransition(0, 2, 9) = 2; addCondition(2, 0, 2, 1); tick(1) = 2; set(0, 1); tick(1) = 0; isFrozen() = true; state() = 0; tick(5) = 0\n");
        String share = "Its share is the share after step 3; if the transition has ended in step 3, the source track has the share 0 and the target track the share WHOLE; the track of a machine that was idle in step 2 has the share WHOLE.";
        String half = THREE + "addEvent(0, 1, 1); addEvent(1, 1, 2); addTransition(0, 1, 2)\n";
        Sentences.test(share, half, "setThreshold(50); tick(1) = 2\n");
        Sentences.test(share, half, "setThreshold(51); tick(1) = 0\n");
        Sentences.test(share, THREE, "addEvent(0, 2, 1); addEvent(1, 2, 2); addTransition(0, 1, 2); setThreshold(0); tick(1) = 0; tick(1) = 1; event(0, 1) = 2\n");
        Sentences.test(share, THREE, "addEvent(0, 2, 1); addEvent(1, 2, 2); addTransition(0, 1, 2); setThreshold(100); tick(1) = 0; tick(1) = 1; event(0, 1) = 2\n");
        Sentences.test(share, THREE, "addEvent(0, 1, 1); setThreshold(100); tick(1) = 1\n");
        // When the transition ends, the target's own progress before the tick counts, and that it was fresh.
        Sentences.test(share, THREE, "addEvent(1, 0, 1); addEvent(1, 2, 2); addTransition(0, 1, 2) = 0; setTiming(0, 250, 0); tick(25) = 0; tick(1) = 1; transition() = 0; tick(1) = 1; transition() = -1; event(1, 0) = 27; event(1, 1) = 2\n");
        Sentences.test(share, THREE, "addEvent(1, 0, 1); addEvent(1, 2, 2); addTransition(0, 1, 1) = 0; setTiming(0, 250, 20); setThreshold(100); tick(25) = 0; tick(1) = 1; transition() = -1; event(0, 1) = 2; progress(false) = 300000\n");
        // 16667 of the source are left after 59 of 60 ticks.
        Sentences.test(share, THREE, "addEvent(0, 9, 1); addTransition(0, 1, 60); setThreshold(1); tick(58); tick(1) = 1; setThreshold(2); reset(); tick(58); tick(1) = 0\n");
    }

    private static void heavyEnough() {
        String heavy = "whose weight w is not 0, and for which w * 100 is at least the event threshold * WHOLE, the events of its clip are looked at in order.";
        // Clip 1 has the weight 9900 + 99 in state 0, 10000 in state 1 and none in state 2.
        String thin = "addParameter(0); addClip(10); addClip(10); addEvent(1, 0, 8); addEvent(1, 0, 7); addClipNode(0); addClipNode(1); addLine(0) = 2; addLine(0) = 3; addLine(0) = 4; addLine(0) = 5\n"
            + "addChild(2, 1, 0); addChild(2, 0, 100); addChild(3, 1, 0); addChild(3, 2, 100); addChild(4, 0, 0); addChild(4, 3, 100); addChild(5, 0, 0); addChild(5, 1, 100); addState(4, 100, true, 0); addState(5, 100, true, 0); addState(0, 100, true, 0)\n"
            + "addTransition(0, 1, 0); addTransition(0, 2, 0); setTiming(0, 10, 0); setTiming(1, 10, 0); addParameter(1) = 1; addParameter(1) = 2; addCondition(0, 1, 2, 1); addCondition(1, 2, 2, 1); set(0, 1); partWeight(0, 1) = 9999; partWeight(1, 1) = 10000; partWeight(2, 1) = 0\n";
        Sentences.test(heavy, thin, "tick(1) = 0; reset(); setThreshold(0) = 1; set(0, 1); tick(1) = 2; event(0, 1) = 8; event(1, 1) = 7\n");
        Sentences.test(heavy, thin, "set(1, 1); tick(1) = 0; tick(1) = 2; state() = 1; event(0, 2) = 1; event(0, 3) = 1; event(1, 1) = 7\n");
        Sentences.test(heavy, thin, "set(1, 1); setThreshold(2) = 1; tick(1) = 0; tick(1) = 0; state() = 1\n");
        Sentences.test(heavy, thin, "set(2, 1); tick(1) = 0; setThreshold(0) = 1; tick(20) = 0; state() = 2\n");
        Sentences.test(heavy, thin, "set(0, 100); setThreshold(100); partWeight(1, 1) = 1000000; set(1, 1); tick(1) = 0; tick(1) = 2\n");
        Sentences.test(heavy, thin, "set(0, 99); setThreshold(100); partWeight(1, 1) = 990000; set(1, 1); tick(1) = 0; tick(1) = 0; state() = 1\n");
        Sentences.test(heavy, thin, "set(0, 99); setThreshold(99); set(1, 1); tick(1) = 0; tick(1) = 2; state() = 1\n");
    }

    private static void passing() {
        Sentences.test("Let z be (time of the event) * WHOLE / (length of the clip).", "addClip(3); addEvent(0, 1, 1); addEvent(0, 2, 2); addClipNode(0); addState(0, 100, true, 0)\n",
            "tick(1) = 1; progress(false) = 333333; event(0, 1) = 1; tick(1) = 1; progress(false) = 666666; event(1, 1) = 2; tick(1) = 0; tick(1) = 0; progress(false) = 1333332; tick(1) = 1; progress(false) = 1666665; event(2, 1) = 1\n");
        Sentences.test("Let z be (time of the event) * WHOLE / (length of the clip).", "addClip(500); addEvent(0, 499, 1); addClipNode(0); addState(0, 100, true, 0); tick(100); tick(100); tick(100); tick(100); tick(98) = 0; progress(false) = 996000; tick(1) = 1; progress(false) = 998000; tick(1) = 0\n");
        String fired = "The event is fired, once, if there is a number c, 0 or greater (only 0 if the state does not loop), such that c * WHOLE + z is at most the progress of the track, and greater than its progress before step 2, or equal to that if the track was fresh.";
        String loop = "addClip(10); addEvent(0, 0, 1); addEvent(0, 3, 2); addClipNode(0)\n";
        Sentences.test(fired, loop, "addState(0, 100, true, 0)\n", "tick(1) = 1; tick(1) = 0; progress(false) = 200000; tick(1) = 1; progress(false) = 300000; tick(1) = 0; tick(5) = 0; progress(false) = 900000; tick(1) = 1; progress(false) = 1000000; tick(1) = 0; tick(2) = 1; fired() = 4\n");
        Sentences.test(fired, loop, "addState(0, 100, false, 0)\n", "tick(1) = 1; tick(1) = 0; tick(1) = 1; tick(1) = 0; tick(6) = 0; progress(false) = 1000000; tick(100) = 0; fired() = 2\n");
        // A fresh track fires what stands where it begins; what is before it only if it loops.
        String late = "addClip(10); addClip(10); addEvent(1, 9, 9); addEvent(1, 8, 8); addEvent(1, 0, 7); addClipNode(0); addClipNode(1); addState(0, 100, true, 0)\n";
        Sentences.test(fired, late, "addState(1, 100, true, 0); addTransition(0, 1, 0); setTiming(0, NONE, 90); tick(1) = 2; progress(false) = 1000000; event(0, 1) = 7; event(1, 1) = 9; tick(1) = 0; tick(7) = 1; event(2, 1) = 8; progress(false) = 1800000; tick(1) = 1; event(3, 1) = 9\n");
        Sentences.test(fired, late, "addState(1, 100, false, 0); addTransition(0, 1, 0); setTiming(0, NONE, 90); tick(1) = 1; progress(false) = 1000000; event(0, 1) = 9; tick(100) = 0\n");
        Sentences.test(fired, late, "addState(1, 100, true, 0); addTransition(0, 1, 0); setTiming(0, NONE, 91); tick(1) = 1; progress(false) = 1010000; event(0, 1) = 7\n");
        Sentences.test(fired, late, "addState(1, 100, false, 0); addTransition(0, 1, 0); setTiming(0, NONE, 91); tick(1) = 0; progress(false) = 1000000; tick(100) = 0\n");
        // Four cycles in a tick, and yet each event once; a cycle and a little more.
        Sentences.test(fired, "addClip(1); addEvent(0, 0, 1); addClipNode(0); addState(0, 400, true, 0); tick(1) = 1; progress(false) = 4000000; tick(1) = 1; tick(100) = 100; fired() = 102\n");
        Sentences.test(fired, "addClip(2); addEvent(0, 1, 1); addEvent(0, 0, 2); addClipNode(0); addState(0, 220, true, 0); tick(1) = 2; progress(false) = 1100000; tick(1) = 2; progress(false) = 2200000; tick(2) = 4; fired() = 8\n");
        Sentences.test("The number of ticks increases by 1 with each tick.", EdgesOfParts.ONE, "count(5) = 0; tick(1); count(5) = 1; tick(100); count(5) = 101; tick(2); count(5) = 103\n", Sentences.argument("tick(0)", "tick(101)"), "count(5) = 103\n");
    }

    private static void kept() {
        Sentences.test("The event threshold is 0 to 100, at first 1.", "setThreshold(0) = 1; setThreshold(100) = 0\n", Sentences.argument("setThreshold(-1)", "setThreshold(101)"), "setThreshold(1) = 100\n");
        String many = "addClip(1); addEvent(0, 0, 42); addClip(1); addClipNode(0); addState(0, 100, true, 0)\n";
        String latest = "The latest 30 events that were fired are kept, with the number of the tick (1 for the first tick), the id, the clip and the state.";
        Sentences.test(latest, many, Sentences.index("event(0, 0)"), "count(6) = 0; tick(1) = 1; count(6) = 1; event(0, 0) = 1; event(0, 1) = 42; event(0, 2) = 0; event(0, 3) = 0\n", Sentences.index("event(1, 0)"));
        Sentences.test(latest, many, "tick(29) = 29; count(6) = 29; event(0, 0) = 1; event(28, 0) = 29\n", Sentences.index("event(29, 0)"), "tick(1) = 1; count(6) = 30; event(0, 0) = 1; event(29, 0) = 30\n", Sentences.index("event(30, 0)"),
            "tick(1) = 1; count(6) = 30; fired() = 31; event(0, 0) = 2; event(29, 0) = 31\n", Sentences.index("event(30, 0)"), "tick(29); event(0, 0) = 31; event(29, 0) = 60; tick(100); event(0, 0) = 131; event(29, 0) = 160; fired() = 160\n");
        // Five events in a tick, of which the oldest ones are dropped one by one, in the same tick, too.
        Sentences.test(latest, "addClip(1); addEvent(0, 0, 1); addEvent(0, 0, 2); addEvent(0, 0, 3); addEvent(0, 0, 4); addEvent(0, 0, 5); addClip(1); addEvent(1, 0, 6); addEvent(1, 0, 7); addClipNode(0); addClipNode(1); addParameter(0)\n",
            "addLine(0) = 2; addChild(2, 0, 0); addChild(2, 1, 10); addState(2, 100, true, 0); set(0, 5); tick(4) = 28; event(0, 1) = 1; tick(1) = 7; fired() = 35; count(6) = 30; event(0, 0) = 1; event(0, 1) = 6; event(0, 2) = 1; event(1, 1) = 7; event(2, 0) = 2; event(2, 1) = 1; event(29, 0) = 5; event(29, 1) = 7\n");
    }

    private static void poses() {
        Sentences.in("Pose");
        String time = "and the time, which is phase * (length of the clip) / WHOLE, but at most the length - 1.";
        Sentences.test(time, "addClip(7); addClipNode(0); addState(0, 100, false, 0)\n", Sentences.pose(0, 0, 1000000), "tick(1); progress(false) = 142857\n", Sentences.pose(0, 0, 1000000), "tick(1)\n", Sentences.pose(0, 1, 1000000),
            "tick(5); progress(false) = 999999\n", Sentences.pose(0, 6, 1000000), "tick(1); progress(false) = 1000000\n", Sentences.pose(0, 6, 1000000));
        Sentences.test(time, "addClip(500); addClip(1); addClipNode(0); addClipNode(1); addState(0, 400, false, 0); addState(1, 1, false, 0); addTransition(0, 1, 0); setTiming(0, 100, 0); tick(100); poseTime(0) = 400; tick(24); progress(false) = 992000; poseTime(0) = 496; tick(1); progress(false) = 1000000; poseTime(0) = 499\n",
            "tick(1); state() = 1; poseClip(0) = 1; poseTime(0) = 0; tick(100); progress(false) = 1000000; poseTime(0) = 0\n");
        Sentences.test("consists of an entry for each part of the blend of its motion with this share", "addParameter(0); addClip(10); addClip(20); addClipNode(0); addClipNode(1); addLine(0) = 2; addChild(2, 0, 0); addChild(2, 1, 10); addState(2, 100, true, 0); addState(0, 100, true, 0); addTransition(0, 1, 4); addCondition(0, 0, 1, 0)\n",
            Sentences.pose(0, 0, 1000000), "set(0, 1)\n", Sentences.pose(0, 0, 900000, 1, 0, 100000), "set(0, 9)\n", Sentences.pose(0, 0, 100000, 1, 0, 900000), "set(0, 10)\n", Sentences.pose(1, 0, 1000000));
        String present = "The present pose is that of the only track with the share WHOLE, or consists of the entries of the source and the target with their shares.";
        Sentences.test(present, "poseSize() = 0\n", EdgesOfParts.CLIP, "poseSize() = 0\n", Sentences.index("poseClip(0)", "poseTime(0)", "poseWeight(0)"), "addState(0, 100, true, 0)\n", Sentences.pose(0, 0, 1000000));
        Sentences.test(present, THREE, "addTransition(0, 1, 2)\n", Sentences.pose(0, 0, 1000000), "tick(1)\n", Sentences.pose(0, 1, 500000, 1, 1, 500000), "tick(1)\n", Sentences.pose(1, 2, 1000000));
        String same = "addClip(10); addClipNode(0); addState(0, 100, true, 0); addState(0, 100, true, 0); addState(0, 200, true, 0); addTransition(0, 1, 3); addTransition(0, 2, 3); addParameter(1); addCondition(0, 0, 2, 0)\n";
        Sentences.test("Entries with the same clip and time are combined into one, with the sum of their weights.", same, "tick(1)\n", Sentences.pose(0, 1, 1000000), "tick(1)\n", Sentences.pose(0, 2, 1000000));
        Sentences.test("Entries with the same clip and time are combined into one, with the sum of their weights.", same, "set(0, 1); tick(1)\n", Sentences.pose(0, 1, 666667, 0, 2, 333333));
        // A frozen entry and one of the target.
        Sentences.test("Entries with the same clip and time are combined into one, with the sum of their weights.", THREE, "addTransition(0, 1, 2); setInterruption(0, 1, false); addTransition(0, 0, 4); addCondition(1, 0, 2, 1); tick(1); set(0, 1); tick(1); isFrozen() = true\n", Sentences.pose(0, 1, 625000, 1, 1, 375000));
        Sentences.test("The entries are ordered by clip, and for the same clip by time.", THREE, "addTransition(0, 1, 2); setTiming(0, NONE, 80); setInterruption(0, 2, false); addTransition(1, 0, 4); addCondition(1, 0, 2, 1); setTiming(1, NONE, 40); addTransition(0, 2, 4)\n",
            "tick(1)\n", Sentences.pose(0, 1, 500000, 1, 9, 500000), "set(0, 1); tick(1)\n", Sentences.pose(0, 1, 375000, 0, 5, 250000, 1, 9, 375000));
        Sentences.test("The entries are ordered by clip, and for the same clip by time.", THREE, "addState(1, 100, true, 0) = 3; addTransition(0, 2, 2); addTransition(2, 1, 2); addTransition(1, 3, 2); setTiming(2, NONE, 30); tick(1)\n", Sentences.pose(0, 1, 500000, 2, 1, 500000),
            "tick(2)\n", Sentences.pose(1, 1, 500000, 2, 3, 500000), "tick(2)\n", Sentences.pose(1, 3, 500000, 1, 4, 500000));
    }

    private static void frozenPoses() {
        String frozen = "each with the weight (its weight) * share / WHOLE, where the weight of the first entry increases by what is missing in the sum of the weights to the share";
        Sentences.test(frozen, THREE, "addTransition(0, 1, 3); setInterruption(0, 2, false); addTransition(1, 2, 7); addCondition(1, 0, 2, 1); tick(1); set(0, 1)\n", Sentences.pose(0, 1, 666667, 1, 1, 333333),
            "# of 857143: 571428.9 and 285714.0, of which one is missing\n", "tick(1)\n", Sentences.pose(0, 1, 571429, 1, 1, 285714, 2, 1, 142857), "tick(5); elapsed() = 6\n", "# of 142858: 95238.7 and 47619.2, too\n", Sentences.pose(0, 1, 95239, 1, 1, 47619, 2, 6, 857142));
        // Clips 0 and 1 with the weights 1 and 999999: the first one keeps its 1, as it is what is missing.
        String thin = "addParameter(0); addParameter(2); addClip(10); addClip(10); addClip(10); addClipNode(0); addClipNode(1); addClipNode(2); addLine(0) = 3; addLine(0) = 4; addLine(0) = 5; addState(2, 100, true, 0)\n";
        String first = "addChild(3, 1, -100); addChild(3, 0, 100); addChild(4, 1, -100); addChild(4, 3, 100); addChild(5, 1, -100); addChild(5, 4, 100)\n";
        String last = "addChild(3, 0, -100); addChild(3, 1, 100); addChild(4, 0, -100); addChild(4, 3, 100); addChild(5, 0, -100); addChild(5, 4, 100)\n";
        String go = "addState(5, 100, true, 0) = 1; addTransition(0, 1, 0) = 0; addTransition(1, 0, 60) = 1; setTiming(1, 10, 0); setInterruption(1, 1, false); addTransition(1, 0, 60) = 2; addCondition(2, 1, 2, 1); set(0, -98); tick(1)\n";
        Sentences.test(frozen, thin, first, go, Sentences.pose(0, 1, 1, 1, 1, 999999), "set(1, 1); tick(1); isFrozen() = true\n", Sentences.pose(0, 1, 1, 1, 1, 983333, 2, 1, 16666));
        Sentences.test("entries with the weight 0 are left out.", thin, last, go, Sentences.pose(0, 1, 999999, 1, 1, 1), "set(1, 1); tick(1); isFrozen() = true\n", Sentences.pose(0, 1, 983334, 2, 1, 16666));
        // The parameters blend what is played, not what is frozen.
        Sentences.test("The pose of a frozen pose with a share consists of the same entries", "addParameter(0); addParameter(2); addClip(10); addClip(10); addClipNode(0); addClipNode(1); addLine(0) = 2; addChild(2, 0, 0); addChild(2, 1, 10); addState(2, 100, true, 0); addState(2, 100, true, 0)\n",
            "addTransition(0, 1, 4); addCondition(0, 1, 2, 1); setInterruption(0, 2, false); addTransition(1, 0, 4); addCondition(1, 1, 2, 1); setTiming(1, NONE, 50); set(0, 5); set(1, 1); tick(1)\n", Sentences.pose(0, 1, 500000, 1, 1, 500000),
            "set(1, 1); tick(1); isFrozen() = true\n", Sentences.pose(0, 1, 375000, 0, 6, 125000, 1, 1, 375000, 1, 6, 125000), "set(0, 0)\n", Sentences.pose(0, 1, 375000, 0, 6, 250000, 1, 1, 375000));
    }

    /** Eight clips in three tracks' poses and in that of the target are all that there can be. */
    private static void largestPose() {
        String three = Sentences.times(8, "addClip(100)") + "addParameter(0) = 0; addParameter(2) = 1; addParameter(2) = 2; set(0, 50)\n";
        StringBuilder tree = new StringBuilder();
        for (int i = 0; i < 8; i++) tree.append("addClipNode(" + i + ")\n");
        for (int line = 8; line < 15; line++) tree.append("addLine(0) = " + line + "; addChild(" + line + ", " + (line - 8) * 2 + ", 0); addChild(" + line + ", " + ((line - 8) * 2 + 1) + ", 100)\n");
        String ways = Sentences.times(4, "addState(14, 100, true, 0)") + "addTransition(0, 1, 60); addTransition(1, 2, 60); addTransition(2, 3, 60); setTiming(0, NONE, 20); setTiming(1, NONE, 40); setTiming(2, NONE, 60)\n"
            + "setInterruption(0, 2, false); setInterruption(1, 2, false); setInterruption(2, 2, false); addCondition(1, 1, 2, 1); addCondition(2, 2, 2, 1)\n";
        Sentences.test("consists of the same entries", three, tree.toString(), ways, "poseSize() = 8; tick(1); poseSize() = 16; poseWeight(0) = 122917; poseTime(1) = 21; poseWeight(1) = 2084; poseWeight(15) = 2083\n",
            "set(1, 1); tick(1); poseSize() = 24; poseWeight(0) = 120874; poseWeight(23) = 2083; set(2, 1); tick(1)\n",
            Sentences.pose(0, 1, 118873, 0, 21, 2014, 0, 41, 2049, 0, 61, 2084, 1, 1, 118853, 1, 21, 2013, 1, 41, 2048, 1, 61, 2083, 2, 1, 118853, 2, 21, 2013, 2, 41, 2048, 2, 61, 2083, 3, 1, 118852, 3, 21, 2013, 3, 41, 2048, 3, 61, 2083,
                4, 1, 118853, 4, 21, 2014, 4, 41, 2049, 4, 61, 2084, 5, 1, 118853, 5, 21, 2013, 5, 41, 2048, 5, 61, 2083, 6, 1, 118853, 6, 21, 2013, 6, 41, 2048, 6, 61, 2083, 7, 1, 118852, 7, 21, 2013, 7, 41, 2048, 7, 61, 2083),
            Sentences.index("poseClip(32)", "poseTime(32)", "poseWeight(32)", "poseClip(-1)"), "keep(0) = 3; tick(60); poseSize() = 8; restore(0) = 3; poseSize() = 32; poseWeight(31) = 2083\n",
            "# nothing of the large pose is left over in the smaller ones\n", "reset() = 3; set(0, 50); tick(1); poseSize() = 16; poseWeight(0) = 122917; set(1, 1); tick(1); poseSize() = 24; poseWeight(0) = 120874; poseWeight(1) = 2049; poseWeight(23) = 2083\n",
            "reset() = 2; set(0, 0); set(1, 1); tick(1)\n", Sentences.pose(0, 0, 983334, 0, 41, 16666));
    }
}
