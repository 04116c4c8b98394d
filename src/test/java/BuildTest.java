/** Promises 1 to 15: a new object, parameters, clips, blend trees, states and transitions. */
final class BuildTest {
    private static final String INDEX = " = throws IndexOutOfBoundsException\n";
    private static final String ARGUMENT = " = throws IllegalArgumentException\n";
    private static final String STATE = " = throws IllegalStateException\n";

    /** A number, a switch and a trigger; clips of 20 and 10 ticks; a state for each. */
    static final String BASE = """
        addParameter(0) = 0; addParameter(1) = 1; addParameter(2) = 2
        addClip(20) = 0; addClip(10) = 1; addClipNode(0) = 0; addClipNode(1) = 1
        addState(0, 100, true, 0) = 0; addState(1, 100, true, 0) = 1
        """;

    public static void main(String[] args) {
        newObject();
        parameters();
        clips();
        events();
        nodes();
        children();
        depths();
        blends();
        states();
        transitions();
        timings();
        interruptions();
        conditions();
        thresholds();
        Script.end();
    }

    private static String times(int n, String call) {
        return (call + "\n").repeat(n);
    }

    private static void newObject() {
        Script.due("NONE", AnimationController.NONE, -1);
        Script.due("ANY", AnimationController.ANY, -1);
        Script.due("WHOLE", AnimationController.WHOLE, 1000000);
        Script.run("1 a new object", """
            count(0) = 0; count(1) = 0; count(2) = 0; count(3) = 0; count(4) = 0; count(5) = 0; count(6) = 0; count(7) = 0
            target() = -1; transition() = -1; elapsed() = -1; isFrozen() = false; poseSize() = 0; fired() = 0
            fault() = 0; clearText() = 0; reset() = 0; setThreshold(1) = 1
            value(0) = throws IndexOutOfBoundsException; poseClip(0) = throws IndexOutOfBoundsException
            """);
    }

    private static void parameters() {
        Script.run("2 addParameter", "addParameter(0) = 0; addParameter(1) = 1; addParameter(2) = 2; count(0) = 3\n",
            "addParameter(-1)" + ARGUMENT, "addParameter(3)" + ARGUMENT,
            times(5, "addParameter(0)"), "count(0) = 8\n", "addParameter(0)" + STATE, "addParameter(3)" + ARGUMENT);
        Script.run("3 set, 4 value", "addParameter(0); addParameter(1); addParameter(2); value(0) = 0; value(1) = 0; value(2) = 0\n",
            "set(0, -100) = 0; value(0) = -100; set(0, 100) = -100; value(0) = 100; set(1, 1) = 0; set(1, 0) = 1; set(1, 1) = 0\n",
            "set(2, 1) = 0; value(2) = 1; value(1) = 1; value(0) = 100\n",
            "set(0, 101)" + ARGUMENT, "set(0, -101)" + ARGUMENT, "set(1, 2)" + ARGUMENT, "set(1, -1)" + ARGUMENT,
            "set(2, 2)" + ARGUMENT, "set(2, -1)" + ARGUMENT, "set(-1, 0)" + INDEX, "set(3, 500)" + INDEX,
            "value(-1)" + INDEX, "value(3)" + INDEX);
    }

    private static void clips() {
        Script.run("5 addClip", "addClip(1) = 0; addClip(500) = 1; count(1) = 2\n", "addClip(0)" + ARGUMENT,
            "addClip(501)" + ARGUMENT, times(10, "addClip(7)"), "count(1) = 12\n", "addClip(7)" + STATE, "addClip(0)" + ARGUMENT);
    }

    private static void events() {
        Script.run("6 addEvent", "addClip(10)\n", "addEvent(1, 0, 0)" + INDEX, "addEvent(-1, 99, 0)" + INDEX,
            "addEvent(0, 10, 0)" + ARGUMENT, "addEvent(0, -1, 0)" + ARGUMENT, "addEvent(0, 0, 100)" + ARGUMENT,
            "addEvent(0, 0, -1)" + ARGUMENT,
            "addEvent(0, 9, 99) = 1; addEvent(0, 3, 1) = 2; addEvent(0, 9, 0) = 3; addEvent(0, 0, 2) = 4; addEvent(0, 3, 3) = 5\n",
            "addEvent(0, 0, 5)" + STATE, "addEvent(0, 10, 5)" + ARGUMENT,
            "# 400000 in a tick: 0 and 3, nothing, and then the order of the clip, although 9 was passed before 0\n",
            "addClipNode(0); addState(0, 400, true, 0); tick(1) = 3; tick(1) = 0; tick(1) = 3\n",
            "event(0, 1) = 2; event(1, 1) = 1; event(2, 1) = 3; event(3, 1) = 2; event(4, 1) = 99; event(5, 1) = 0\n");
    }

    private static void nodes() {
        Script.run("7 addClipNode, 8 addLine", "addParameter(0); addParameter(1); addParameter(2); addClip(5)\n",
            "addClipNode(0) = 0; addLine(0) = 1; addClipNode(0) = 2; count(2) = 3\n",
            "addClipNode(1)" + INDEX, "addClipNode(-1)" + INDEX, "addLine(3)" + INDEX, "addLine(-1)" + INDEX,
            "addLine(1)" + STATE, "addLine(2)" + STATE,
            times(17, "addClipNode(0)"), "count(2) = 20\n", "addClipNode(0)" + STATE, "addLine(0)" + STATE,
            "addClipNode(1)" + INDEX, "addLine(3)" + INDEX);
    }

    private static void children() {
        Script.run("9 addChild", "addParameter(0); addClip(5); addClipNode(0) = 0; addLine(0) = 1; addLine(0) = 2\n",
            "addChild(3, 0, 0)" + INDEX, "addChild(1, 3, 0)" + INDEX, "addChild(-1, 0, 0)" + INDEX, "addChild(1, -1, 101)" + INDEX,
            "addChild(0, 0, 0)" + ARGUMENT, "addChild(1, 1, 0)" + ARGUMENT, "addChild(1, 2, 0)" + ARGUMENT,
            "addChild(1, 0, 101)" + ARGUMENT, "addChild(1, 0, -101)" + ARGUMENT, "addChild(2, 1, 0)" + STATE,
            "addChild(2, 1, 101)" + ARGUMENT,
            "addChild(1, 0, 100) = 1; addChild(1, 0, -100) = 2\n", "addChild(1, 0, 100)" + STATE,
            "addChild(1, 0, 0) = 3; addChild(1, 0, 1) = 4; addChild(1, 0, 2) = 5\n", "addChild(1, 0, 3)" + STATE,
            "addChild(1, 0, 101)" + ARGUMENT, "addChild(2, 1, 0) = 1; addChild(2, 1, 1) = 2; addChild(2, 0, 2) = 3\n");
    }

    private static void depths() {
        Script.run("9 addChild: depths", "addParameter(0); addClip(5); addClipNode(0) = 0; addLine(0) = 1; addLine(0) = 2; addLine(0) = 3\n",
            "addLine(0) = 4; addChild(1, 0, 0) = 1; addChild(2, 1, 0) = 1; addChild(3, 2, 0) = 1\n",
            "addChild(4, 3, 0)" + STATE, "addChild(4, 2, 0) = 1\n");
        Script.run("9 addChild: the depth of a line above", "addParameter(0); addClip(5); addClipNode(0) = 0; addLine(0) = 1; addLine(0) = 2\n",
            "addLine(0) = 3; addLine(0) = 4; addChild(1, 0, 0) = 1; addChild(2, 0, 0) = 1; addChild(3, 2, 0) = 1; addChild(4, 3, 0) = 1\n",
            "addChild(2, 1, 5)" + STATE, "addChild(2, 0, 5) = 2; addChild(3, 1, 5) = 2\n");
    }

    private static void blends() {
        String lines = "addParameter(0) = 0; addParameter(0) = 1; addClip(20); addClip(10); addClip(30); addClipNode(0); addClipNode(1); addClipNode(2)\n"
            + "addLine(0) = 3; addChild(3, 2, 10); addChild(3, 0, -10); addChild(3, 1, 4); addState(3, 100, true, 0)\n";
        Script.run("blend of a line", lines, "partWeight(0, 0) = 285715; partWeight(0, 1) = 714285; partWeight(0, 2) = 0; stateLength(0) = 12\n",
            "set(0, -10); partWeight(0, 0) = 1000000; partWeight(0, 1) = 0; stateLength(0) = 20\n",
            "set(0, -11); partWeight(0, 0) = 1000000; set(0, -100); partWeight(0, 0) = 1000000\n",
            "set(0, 10); partWeight(0, 2) = 1000000; set(0, 11); partWeight(0, 2) = 1000000; stateLength(0) = 30\n",
            "set(0, 4); partWeight(0, 1) = 1000000; partWeight(0, 0) = 0; partWeight(0, 2) = 0; poseSize() = 1\n",
            "set(0, 5); partWeight(0, 0) = 0; partWeight(0, 1) = 833334; partWeight(0, 2) = 166666; stateLength(0) = 13; poseSize() = 2\n");
        // 999999 * 2 + 1 * 1 is rounded down to one tick.
        Script.run("a length is rounded down", "addParameter(0); addClip(2); addClip(1); addClipNode(0); addClipNode(1); addLine(0) = 2; addLine(0) = 3; addLine(0) = 4\n",
            "addChild(2, 0, 0); addChild(2, 1, 100); addChild(3, 0, 0); addChild(3, 2, 100); addChild(4, 0, 0); addChild(4, 3, 100); addState(4, 100, true, 0)\n",
            "stateLength(0) = 2; set(0, 1); partWeight(0, 0) = 999999; partWeight(0, 1) = 1; stateLength(0) = 1; set(0, 100); stateLength(0) = 1\n");
        // The same clip through two lines: each share is rounded by itself, and then they are added.
        Script.run("blend of lines in lines", lines, "addLine(1) = 4; addChild(4, 3, 0); addChild(4, 0, 3); addState(4, 100, true, 0) = 1\n",
            "set(1, 1); partWeight(1, 0) = 523810; partWeight(1, 1) = 476190; partWeight(1, 2) = 0\n",
            "set(1, 0); partWeight(1, 0) = 285715; set(1, 3); partWeight(1, 0) = 1000000; partWeight(1, 1) = 0\n");
    }

    private static void states() {
        Script.run("10 addState", "addParameter(0); addClip(5); addClipNode(0) = 0; addLine(0) = 1\n",
            "addState(2, 0, true, 4)" + INDEX, "addState(-1, 100, true, 0)" + INDEX, "addState(0, 0, true, 0)" + ARGUMENT,
            "addState(0, 401, true, 0)" + ARGUMENT, "addState(0, 100, true, 4)" + ARGUMENT, "addState(0, 100, true, -1)" + ARGUMENT,
            "addState(1, 100, true, 0)" + STATE, "addState(1, 0, true, 0)" + ARGUMENT,
            "addState(0, 1, true, 3) = 0; addState(0, 400, false, 0) = 1; state() = 0; progress(false) = 0; poseSize() = 1; target() = -1\n",
            times(8, "addState(0, 100, true, 0)"), "count(3) = 10\n", "addState(0, 100, true, 0)" + STATE,
            "addState(0, 100, true, 9)" + ARGUMENT, "state() = 0; addChild(1, 0, 0) = 1; poseWeight(0) = 1000000\n");
    }

    private static void transitions() {
        Script.run("11 addTransition", BASE, "addTransition(0, 1, 0) = 0; addTransition(ANY, 0, 60) = 1; addTransition(1, 1, 5) = 2\n",
            "addTransition(2, 0, 61)" + INDEX, "addTransition(-2, 0, 5)" + INDEX, "addTransition(0, 2, 5)" + INDEX,
            "addTransition(0, -1, 5)" + INDEX, "addTransition(0, 1, 61)" + ARGUMENT, "addTransition(0, 1, -1)" + ARGUMENT,
            times(21, "addTransition(0, 1, 5)"), "count(4) = 24\n", "addTransition(0, 1, 5)" + STATE,
            "addTransition(0, 1, 61)" + ARGUMENT, "addTransition(0, 7, 5)" + INDEX);
        // It has no exit, the start 0, the mode 0, no mark and no conditions.
        Script.run("11 a new transition", BASE, "addTransition(0, 1, 5) = 0; addTransition(1, 0, 5) = 1; addTransition(0, 1, 5) = 2\n",
            "blocked(0) = 0; tick(1); transition() = 0; progress(true) = 100000; blocked(1) = 1; blocked(2) = 1; setTiming(0, 1, 0) = -1\n",
            "setInterruption(0, 0, true) = 0; addCondition(0, 0, 2, 0) = 1\n");
    }

    private static void timings() {
        Script.run("12 setTiming", BASE, "addTransition(0, 1, 5) = 0; addTransition(ANY, 1, 5) = 1\n",
            "setTiming(0, 300, 99) = -1; setTiming(0, 0, 0) = 300; setTiming(0, NONE, 7) = 0; setTiming(0, 5, 7) = -1\n",
            "setTiming(1, NONE, 99) = -1\n", "setTiming(1, 0, 0)" + STATE, "setTiming(1, 301, 0)" + ARGUMENT,
            "setTiming(2, 301, 0)" + INDEX, "setTiming(-1, 0, 0)" + INDEX, "setTiming(0, 301, 0)" + ARGUMENT,
            "setTiming(0, -2, 0)" + ARGUMENT, "setTiming(0, 0, 100)" + ARGUMENT, "setTiming(0, 0, -1)" + ARGUMENT, "setTiming(0, 1, 0) = 5\n");
        Script.run("12 an exit is in hundredths of the progress", BASE, "addTransition(0, 1, 5) = 0; setTiming(0, 105, 30) = -1; blocked(0) = 2\n",
            "tick(20) = 0; progress(false) = 1000000; blocked(0) = 2; tick(1); progress(false) = 1050000; blocked(0) = 0\n",
            "tick(1); transition() = 0; progress(true) = 400000\n");
    }

    private static void interruptions() {
        Script.run("13 setInterruption", BASE, "addTransition(0, 1, 5) = 0\n",
            "setInterruption(0, 4, true) = 0; setInterruption(0, 0, false) = 4; setInterruption(0, 1, false) = 0\n",
            "setInterruption(0, 5, true)" + ARGUMENT, "setInterruption(0, -1, true)" + ARGUMENT, "setInterruption(1, 5, true)" + INDEX,
            "setInterruption(-1, 0, true)" + INDEX, "setInterruption(0, 0, false) = 1\n");
    }

    private static void conditions() {
        Script.run("14 addCondition", BASE, "addTransition(0, 1, 5) = 0; addTransition(0, 1, 5) = 1\n",
            "addCondition(2, 0, 9, 0)" + INDEX, "addCondition(-1, 0, 0, 0)" + INDEX, "addCondition(0, 3, 0, 0)" + INDEX,
            "addCondition(0, -1, 0, 0)" + INDEX, "addCondition(0, 0, 4, 0)" + ARGUMENT, "addCondition(0, 0, -1, 0)" + ARGUMENT,
            "addCondition(0, 0, 0, 101)" + ARGUMENT, "addCondition(0, 0, 0, -101)" + ARGUMENT, "addCondition(0, 1, 0, 0)" + ARGUMENT,
            "addCondition(0, 1, 3, 0)" + ARGUMENT, "addCondition(0, 1, 2, 2)" + ARGUMENT, "addCondition(0, 1, 2, -1)" + ARGUMENT,
            "addCondition(0, 2, 2, 0)" + ARGUMENT, "addCondition(0, 2, 3, 1)" + ARGUMENT, "addCondition(0, 2, 2, 2)" + ARGUMENT,
            "addCondition(0, 0, 0, 100) = 1; addCondition(0, 0, 3, -100) = 2; addCondition(0, 1, 2, 0) = 3\n",
            "addCondition(0, 2, 2, 1)" + STATE, "addCondition(0, 2, 2, 0)" + ARGUMENT,
            "addCondition(1, 1, 2, 1) = 1; addCondition(1, 2, 2, 1) = 2; addCondition(1, 1, 2, 1) = 3\n");
        Script.run("14 the operators", BASE, "addTransition(0, 1, 5); addTransition(0, 1, 5); addTransition(0, 1, 5); addTransition(0, 1, 5)\n",
            "addCondition(0, 0, 0, -3); addCondition(1, 0, 1, -3); addCondition(2, 0, 2, -3); addCondition(3, 0, 3, -3)\n",
            "set(0, -4); blocked(0) = 3; blocked(1) = 0; blocked(2) = 3; blocked(3) = 0\n",
            "set(0, -3); blocked(0) = 3; blocked(1) = 3; blocked(2) = 0; blocked(3) = 3\n",
            "set(0, -2); blocked(0) = 0; blocked(1) = 3; blocked(2) = 3; blocked(3) = 0\n");
        Script.run("14 switches and triggers", BASE, "addTransition(0, 1, 5); addTransition(0, 1, 5); addTransition(0, 1, 5)\n",
            "addCondition(0, 1, 2, 0); addCondition(1, 1, 2, 1); addCondition(2, 2, 2, 1)\n",
            "blocked(0) = 0; blocked(1) = 3; blocked(2) = 3; set(1, 1); set(2, 1); blocked(0) = 3; blocked(1) = 0; blocked(2) = 0\n");
    }

    private static void thresholds() {
        Script.run("15 setThreshold", "setThreshold(0) = 1; setThreshold(100) = 0; setThreshold(50) = 100\n",
            "setThreshold(101)" + ARGUMENT, "setThreshold(-1)" + ARGUMENT, "setThreshold(1) = 50\n");
    }
}
