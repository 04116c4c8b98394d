/** Promises 20 to 30: ticks, tracks, candidates and interruptions. */
final class RunTest {
    private static final String INDEX = " = throws IndexOutOfBoundsException\n";
    private static final String ARGUMENT = " = throws IllegalArgumentException\n";
    private static final String STATE = " = throws IllegalStateException\n";

    /** Three states of 10 ticks each, with a clip of its own, and two triggers. */
    static final String THREE = """
        addParameter(2) = 0; addParameter(2) = 1; addClip(10); addClip(10); addClip(10)
        addClipNode(0); addClipNode(1); addClipNode(2)
        addState(0, 100, true, 0) = 0; addState(1, 100, true, 0) = 1; addState(2, 100, true, 0) = 2
        """;

    public static void main(String[] args) {
        ticks();
        tracks();
        resets();
        queries();
        synced();
        phases();
        fourInATick();
        idleCandidates();
        modes();
        origins();
        ordered();
        interruptions();
        triggers();
        obstacles();
        Script.end();
    }

    private static void ticks() {
        Script.run("20 tick", "tick(0)" + ARGUMENT, "tick(101)" + ARGUMENT, "tick(1)" + STATE, THREE, "tick(1) = 0; tick(100) = 0; count(5) = 101\n",
            "tick(0)" + ARGUMENT, "tick(101)" + ARGUMENT, "tick(-1)" + ARGUMENT, "progress(false) = 10100000\n");
    }

    private static void tracks() {
        Script.run("a state that does not loop", "addClip(7); addClipNode(0); addState(0, 33, false, 0)\n",
            "tick(1); progress(false) = 47142; tick(20); progress(false) = 989982; tick(1); progress(false) = 1000000; tick(50); progress(false) = 1000000\n");
        Script.run("a state that loops", "addClip(7); addClipNode(0); addState(0, 33, true, 0)\n",
            "tick(22); progress(false) = 1037124; tick(100); progress(false) = 5751324\n");
        Script.run("more than a cycle in a tick", "addClip(1); addClipNode(0); addState(0, 333, true, 0)\n",
            "tick(1); progress(false) = 3330000; tick(3); progress(false) = 13320000\n");
        Script.run("not in step", THREE, "addTransition(0, 1, 3); addClip(4) = 3; addClipNode(3) = 3; addState(3, 50, false, 0) = 3; addTransition(1, 3, 10)\n",
            "tick(1); progress(false) = 100000; progress(true) = 100000; tick(2); state() = 1; progress(false) = 300000\n",
            "tick(1); progress(false) = 400000; progress(true) = 125000; tick(1); progress(false) = 500000; progress(true) = 250000\n");
    }

    private static void resets() {
        Script.run("21 reset", "reset() = 0\n", THREE, "addParameter(0) = 2; addEvent(0, 1, 5); addTransition(0, 1, 5); addCondition(0, 0, 2, 1); setThreshold(7)\n",
            "set(0, 1); set(1, 1); set(2, 50); type(65); tick(3) = 1; elapsed() = 3; keep(1) = 3; reset() = 3\n",
            "value(0) = 0; value(1) = 0; value(2) = 0; state() = 0; target() = -1; elapsed() = -1; progress(false) = 0; count(5) = 0; count(6) = 0; fired() = 0\n",
            "event(0, 0)" + INDEX, "count(7) = 1; count(4) = 1; setThreshold(7) = 7; reset() = 0\n",
            "tick(2) = 1; event(0, 0) = 1; progress(false) = 200000; restore(1) = 3; value(2) = 50; elapsed() = 3; fired() = 1\n");
        Script.run("21 reset while frozen", THREE, "addTransition(0, 1, 9); setInterruption(0, 2, false); addTransition(1, 2, 9); addCondition(1, 0, 2, 1)\n",
            "addEvent(0, 0, 4); tick(2) = 1; set(0, 1); tick(1); isFrozen() = true; reset() = 3; isFrozen() = false; poseSize() = 1; poseWeight(0) = 1000000\n",
            "tick(1) = 1; transition() = 0; isFrozen() = false\n");
        Script.run("21 reset without states", "addParameter(0); set(0, 4); reset() = 0; value(0) = 0; poseSize() = 0\n", "state()" + STATE);
    }

    private static void queries() {
        Script.run("22 state to 27 progress", "state()" + STATE, "progress(false)" + STATE, "progress(true)" + STATE,
            "target() = -1; transition() = -1; elapsed() = -1; isFrozen() = false\n", THREE,
            "addTransition(2, 0, 5) = 0; addTransition(0, 1, 2) = 1; addCondition(1, 0, 2, 1)\n",
            "state() = 0; target() = -1; transition() = -1; elapsed() = -1; isFrozen() = false; progress(false) = 0\n", "progress(true)" + STATE,
            "tick(1); set(0, 1); tick(1); state() = 0; target() = 1; transition() = 1; elapsed() = 1; isFrozen() = false\n",
            "progress(false) = 200000; progress(true) = 100000\n",
            "tick(1); state() = 1; target() = -1; transition() = -1; elapsed() = -1; isFrozen() = false; progress(false) = 200000\n", "progress(true)" + STATE);
        Script.run("28 stateLength, 29 partWeight", THREE, "stateLength(0) = 10; partWeight(0, 0) = 1000000; partWeight(0, 1) = 0; partWeight(2, 2) = 1000000\n",
            "stateLength(3)" + INDEX, "stateLength(-1)" + INDEX, "partWeight(3, 0)" + INDEX, "partWeight(-1, 0)" + INDEX,
            "partWeight(0, 3)" + INDEX, "partWeight(0, -1)" + INDEX);
    }

    private static void synced() {
        String two = "addClip(20); addClip(10); addClipNode(0); addClipNode(1)\n";
        Script.run("in step", two, "addState(0, 100, true, 1); addState(1, 200, true, 1); addTransition(0, 1, 4); setTiming(0, 10, 77)\n",
            "tick(2); progress(false) = 100000; target() = -1; tick(1); progress(false) = 150000; progress(true) = 150000\n",
            "tick(1); progress(false) = 223529; progress(true) = 223529; tick(1); progress(true) = 323529; progress(false) = 323529\n",
            "tick(1); progress(false) = 469362; target() = -1; tick(1); progress(false) = 669362\n");
        Script.run("groups that differ", two, "addState(0, 100, true, 1); addState(1, 200, true, 2); addTransition(0, 1, 4); setTiming(0, 10, 7)\n",
            "tick(3); progress(false) = 150000; progress(true) = 270000\n");
        Script.run("no groups", two, "addState(0, 100, true, 0); addState(1, 200, true, 0); addTransition(0, 1, 4); setTiming(0, 10, 7)\n",
            "tick(3); progress(false) = 150000; progress(true) = 270000\n");
    }

    private static void phases() {
        String one = "addClip(10); addClipNode(0)\n";
        Script.run("the phase of a source that has ended", one, "addState(0, 100, false, 3); addState(0, 100, true, 3); addTransition(0, 1, 0); setTiming(0, 100, 5)\n",
            "tick(10); progress(false) = 1000000; state() = 0; tick(1); state() = 1; progress(false) = 1099999\n");
        Script.run("to a state that does not loop", one, "addState(0, 100, false, 3); addState(0, 100, false, 3); addTransition(0, 1, 5); setTiming(0, 100, 5)\n",
            "tick(11); progress(true) = 1000000; progress(false) = 1000000\n");
        Script.run("the cycles are not taken over", one, "addState(0, 100, true, 3); addState(0, 100, true, 3); addTransition(0, 1, 5); setTiming(0, 230, 5)\n",
            "tick(23); progress(false) = 2300000; tick(1); progress(true) = 400000; progress(false) = 2400000; tick(4); progress(false) = 800000\n");
        // A frozen source has no phase to be kept, so the start of the transition counts.
        Script.run("a frozen source", one, "addParameter(2); addState(0, 100, true, 3); addState(0, 100, true, 3); addState(0, 50, true, 3)\n",
            "addTransition(0, 1, 5); setInterruption(0, 2, false); addTransition(1, 2, 5); addCondition(1, 0, 2, 1); setTiming(1, NONE, 30)\n",
            "tick(2); progress(true) = 200000; set(0, 1); tick(1); isFrozen() = true; progress(false) = 200000; progress(true) = 350000; tick(4)\n",
            "isFrozen() = false; state() = 2; progress(false) = 550000\n");
    }

    private static void fourInATick() {
        String chain = "addClip(10); addClipNode(0)\n" + "addState(0, 100, true, 0)\n".repeat(7);
        StringBuilder ways = new StringBuilder();
        for (int i = 0; i < 6; i++) ways.append("addTransition(" + i + ", " + (i + 1) + ", 0)\n");
        Script.run("four transitions in a tick", chain, ways.toString(), "foretell(1) = 4; tick(1); state() = 4; progress(false) = 100000; tick(1); state() = 6; progress(false) = 100000\n");
        Script.run("a circle", chain, "addTransition(0, 1, 0); addTransition(1, 2, 0); addTransition(2, 0, 0); tick(1); state() = 1; tick(1); state() = 2; tick(1); state() = 0\n");
        Script.run("to itself", chain, "addTransition(0, 0, 0); tick(5); progress(false) = 100000; state() = 0; target() = -1\n");
    }

    private static void idleCandidates() {
        Script.run("those from any state come first", THREE, "addTransition(0, 1, 5) = 0; addTransition(ANY, 2, 5) = 1; addTransition(ANY, 1, 5) = 2; addTransition(0, 2, 5) = 3\n",
            "blocked(0) = 0; blocked(1) = 0; blocked(2) = 0; tick(1); transition() = 1; tick(4); state() = 2\n",
            "blocked(0) = 1; blocked(1) = 1; blocked(2) = 0; blocked(3) = 1\n");
        Script.run("to the present state", THREE, "addTransition(ANY, 0, 5) = 0; addTransition(0, 0, 5) = 1; blocked(0) = 1; blocked(1) = 0; tick(1); transition() = 1\n");
        Script.run("the first one", THREE, "addTransition(1, 2, 5) = 0; addTransition(0, 2, 5) = 1; addTransition(0, 1, 5) = 2; tick(1); transition() = 1\n");
    }

    /** A transition from A to B, interrupted; 1 leads from A, 2 from B, 3 from any state; 4 to B from any state, and 5 from A. */
    private static String mode(int mode, String ask) {
        return "addTransition(0, 1, 10) = 0; addTransition(0, 2, 5) = 1; addTransition(1, 2, 6) = 2; addTransition(ANY, 2, 7) = 3; addTransition(ANY, 1, 8) = 4;"
            + "addTransition(0, 1, 9) = 5; addTransition(2, 0, 9) = 6\n"
            + "setInterruption(0, " + mode + ", false)\n"
            + "addCondition(4, 1, 2, 1); addCondition(3, 1, 2, 1); addCondition(5, 1, 2, 1); addCondition(1, 1, 2, 1); addCondition(2, 1, 2, 1); tick(1); transition() = 0; set(1, 1)\n" + ask;
    }

    private static void modes() {
        Script.run("mode 0", THREE, mode(0, "blocked(0) = 1; blocked(1) = 1; blocked(2) = 1; blocked(3) = 1; blocked(4) = 1; blocked(5) = 1; blocked(6) = 1; tick(1); transition() = 0"));
        Script.run("mode 1", THREE, mode(1, "blocked(0) = 1; blocked(1) = 0; blocked(2) = 1; blocked(3) = 0; blocked(4) = 1; blocked(5) = 0; blocked(6) = 1; tick(1); transition() = 3; state() = 0"));
        Script.run("mode 2", THREE, mode(2, "blocked(0) = 1; blocked(1) = 1; blocked(2) = 0; blocked(3) = 0; blocked(4) = 1; blocked(5) = 1; blocked(6) = 1; tick(1); transition() = 3; state() = 1"));
        Script.run("mode 3", THREE, mode(3, "blocked(0) = 1; blocked(1) = 0; blocked(2) = 0; blocked(3) = 0; blocked(4) = 1; blocked(5) = 0; blocked(6) = 1; tick(1); transition() = 3; state() = 0"));
        Script.run("mode 4", THREE, mode(4, "blocked(0) = 1; blocked(1) = 0; blocked(2) = 0; blocked(3) = 0; blocked(4) = 1; blocked(5) = 0; blocked(6) = 1; tick(1); transition() = 3; state() = 1"));
        String exits = "addTransition(0, 1, 10) = 0; addTransition(0, 2, 5) = 1; addTransition(1, 2, 6) = 2; addCondition(1, 0, 2, 1); addCondition(2, 0, 2, 1)\n";
        Script.run("mode 3: the source before the target", THREE, exits, "setInterruption(0, 3, false); tick(1); set(0, 1); tick(1); transition() = 1; state() = 0; progress(false) = 100000\n");
        Script.run("mode 4: the target before the source", THREE, exits, "setInterruption(0, 4, false); tick(1); set(0, 1); tick(1); transition() = 2; state() = 1\n");
        Script.run("mode 3: the target if the source cannot", THREE, exits, "addCondition(1, 1, 2, 1); setInterruption(0, 3, false); tick(1); set(0, 1); tick(1); transition() = 2; state() = 1\n");
        Script.run("mode 4: the source if the target cannot", THREE, exits, "addCondition(2, 1, 2, 1); setInterruption(0, 4, false); tick(1); set(0, 1); tick(1); transition() = 1; state() = 0\n");
    }

    /** From A to A: transition 1 is in both lists, and the track whose progress counts tells from which one it comes. */
    private static void origins() {
        String self = "addTransition(0, 0, 20) = 0; setTiming(0, 50, 0); addTransition(0, 1, 5) = 1; setTiming(1, 60, 0)\n";
        for (int mode = 1; mode <= 4; mode++) {
            boolean fromSource = mode % 2 == 1;
            Script.run("the progress in mode " + mode, THREE, self, "setInterruption(0, " + mode + ", false); tick(5); transition() = -1; tick(1); transition() = 0\n",
                "progress(false) = 600000; progress(true) = 100000; blocked(1) = " + (fromSource ? 0 : 2) + "\n",
                "tick(1); transition() = " + (fromSource ? 1 : 0) + "; tick(5); transition() = " + (fromSource ? "-1" : "1") + "\n");
        }
    }

    private static void ordered() {
        String ways = "addTransition(ANY, 2, 5) = 0; addTransition(0, 1, 20) = 1; addTransition(0, 2, 5) = 2; addTransition(1, 2, 5) = 3; addTransition(0, 2, 5) = 4; addTransition(ANY, 2, 5) = 5\n"
            + "addCondition(0, 1, 2, 1); addCondition(2, 1, 2, 1); addCondition(3, 1, 2, 1); addCondition(4, 1, 2, 1); addCondition(5, 1, 2, 1)\n";
        Script.run("ordered, mode 1", THREE, ways, "setInterruption(1, 1, true); tick(1); transition() = 1; set(1, 1); blocked(0) = 0; blocked(2) = 1; blocked(3) = 1; blocked(4) = 1; blocked(5) = 1\n");
        Script.run("not ordered, mode 1", THREE, ways, "setInterruption(1, 1, false); tick(1); set(1, 1); blocked(0) = 0; blocked(2) = 0; blocked(3) = 1; blocked(4) = 0; blocked(5) = 0\n");
        Script.run("ordered, mode 2", THREE, ways, "setInterruption(1, 2, true); tick(1); set(1, 1); blocked(0) = 0; blocked(2) = 1; blocked(3) = 0; blocked(4) = 1; blocked(5) = 0\n");
        // 5 is left out of the source list, so it comes from the target list.
        Script.run("ordered, mode 3", THREE, ways, "setInterruption(1, 3, true); addCondition(0, 0, 2, 1); tick(1); set(1, 1); blocked(5) = 0; blocked(2) = 1; tick(1); transition() = 5; state() = 1\n");
        Script.run("ordered, mode 4", THREE, ways, "setInterruption(1, 4, true); addCondition(0, 0, 2, 1); tick(1); set(1, 1); blocked(2) = 1; blocked(3) = 0; tick(1); transition() = 5; state() = 1\n");
    }

    private static void interruptions() {
        String ways = "addTransition(0, 1, 10) = 0; addTransition(1, 2, 10) = 1; addTransition(2, 0, 10) = 2; addTransition(0, 2, 0) = 3; addTransition(ANY, 1, 4) = 4\n"
            + "setInterruption(0, 2, false); setInterruption(1, 2, false); setInterruption(2, 4, false); addCondition(1, 0, 2, 1); addCondition(2, 0, 2, 1); addCondition(3, 0, 2, 1); addCondition(4, 1, 2, 1)\n";
        Script.run("two interruptions at most", THREE, ways, "tick(1); blocked(1) = 3; set(0, 1); tick(1); transition() = 1; state() = 1; isFrozen() = true; progress(false) = 100000\n",
            "blocked(2) = 3; set(0, 1); tick(2); transition() = 2; state() = 2; target() = 0; progress(false) = 100000; progress(true) = 200000; elapsed() = 2\n",
            "set(0, 1); set(1, 1); blocked(0) = 1; blocked(3) = 1; blocked(4) = 1; tick(7); transition() = 2; elapsed() = 9; tick(1); transition() = -1; state() = 0; blocked(3) = 0\n");
        Script.run("a transition of 0 ticks ends the interruptions", THREE, ways, "setInterruption(4, 2, false); addTransition(1, 0, 0) = 5; addCondition(5, 0, 2, 1); tick(1); set(0, 1)\n",
            "blocked(1) = 0; blocked(5) = 0; addCondition(1, 1, 2, 1); tick(1); transition() = 0; isFrozen() = false; elapsed() = 1; progress(false) = 100000\n");
        Script.run("idle in between", THREE, ways, "tick(1); set(0, 1); tick(10); transition() = -1; state() = 2; set(0, 1); tick(1)\n",
            "transition() = 0; isFrozen() = true; state() = 0; set(0, 1); blocked(1) = 0; tick(1); transition() = 1; set(1, 1); blocked(4) = 1; blocked(2) = 1\n");
        Script.run("in the same tick", THREE, ways, "set(0, 1); tick(1); transition() = 1; isFrozen() = true; elapsed() = 1; progress(false) = 0; poseSize() = 2; poseClip(0) = 0; poseWeight(0) = 900000; poseTime(0) = 0\n");
    }

    private static void triggers() {
        Script.run("triggers become 0", THREE, "addParameter(1) = 2; addTransition(0, 1, 5); addCondition(0, 0, 2, 1); addCondition(0, 2, 2, 1); addTransition(0, 2, 5); addCondition(1, 0, 2, 1)\n",
            "set(0, 1); set(1, 1); set(2, 1); tick(1); transition() = 0; value(0) = 0; value(1) = 1; value(2) = 1\n");
        Script.run("only when it is taken", THREE, "addTransition(0, 1, 5); addCondition(0, 0, 2, 1); addCondition(0, 1, 2, 1); set(0, 1); tick(3); value(0) = 1; transition() = -1\n");
        Script.run("one trigger, one transition", THREE, "addTransition(0, 1, 0); addCondition(0, 0, 2, 1); addTransition(1, 2, 0); addCondition(1, 0, 2, 1); set(0, 1); tick(1); state() = 1; value(0) = 0\n");
    }

    private static void obstacles() {
        Script.run("30 blocked", "blocked(0)" + INDEX, THREE, "addTransition(0, 1, 5) = 0; addTransition(1, 0, 5) = 1; setTiming(0, 10, 0)\n",
            "addCondition(0, 0, 2, 1); addCondition(0, 1, 2, 1); addCondition(0, 0, 2, 1); setTiming(1, 300, 0)\n",
            "blocked(1) = 1; blocked(0) = 2; tick(1); blocked(0) = 3; set(0, 1); blocked(0) = 4; set(0, 0); set(1, 1); blocked(0) = 3; set(0, 1); blocked(0) = 0\n",
            "blocked(-1)" + INDEX, "blocked(2)" + INDEX);
        Script.run("30 the third condition", THREE, "addParameter(0) = 2; addTransition(0, 1, 5); addCondition(0, 2, 1, 5); addCondition(0, 2, 0, -5); addCondition(0, 2, 3, 2)\n",
            "blocked(0) = 0; set(2, 2); blocked(0) = 5; set(2, 5); blocked(0) = 3; set(2, -5); blocked(0) = 4\n");
    }
}
