/** Promises 31 to 36: poses and events. */
final class PoseTest {
    private static final String INDEX = " = throws IndexOutOfBoundsException\n";
    private static final String ARGUMENT = " = throws IllegalArgumentException\n";

    public static void main(String[] args) {
        poses();
        times();
        frozen();
        frozenTwice();
        firing();
        shares();
        thresholds();
        order();
        kept();
        Script.end();
    }

    private static String entries(int... clipTimeWeight) {
        StringBuilder lines = new StringBuilder("poseSize() = " + clipTimeWeight.length / 3 + "\n");
        for (int i = 0; i < clipTimeWeight.length; i += 3) {
            int entry = i / 3;
            lines.append("poseClip(" + entry + ") = " + clipTimeWeight[i] + "\n");
            lines.append("poseTime(" + entry + ") = " + clipTimeWeight[i + 1] + "\n");
            lines.append("poseWeight(" + entry + ") = " + clipTimeWeight[i + 2] + "\n");
        }
        String end = "(" + clipTimeWeight.length / 3 + ")" + INDEX;
        return lines + "poseClip" + end + "poseTime" + end + "poseWeight" + end
            + "poseClip(-1)" + INDEX + "poseTime(-1)" + INDEX + "poseWeight(-1)" + INDEX;
    }

    private static void poses() {
        Script.run("31 no states", entries(), "addParameter(0); addClip(5); addClipNode(0)\n", entries());
        String line = "addParameter(0); addClip(20); addClip(10); addClipNode(1); addClipNode(0); addLine(0)\n"
            + "addChild(2, 0, 0); addChild(2, 1, 3); addState(2, 100, true, 0); addState(0, 100, true, 0)\n";
        Script.run("31 to 34 a blend", line, entries(1, 0, 1000000), "set(0, 1)\n", entries(0, 0, 333333, 1, 0, 666667),
            "tick(5); progress(false) = 384615\n", entries(0, 7, 333333, 1, 3, 666667), "set(0, 3)\n", entries(0, 7, 1000000));
        Script.run("31 to 34 two tracks", line, "set(0, 1); addTransition(0, 1, 3); addCondition(0, 0, 0, 0); tick(1); progress(false) = 76923; progress(true) = 100000\n",
            "# 666667 of the source, in thirds; 333333 of the target, at the same clip but another time\n",
            entries(0, 1, 222222, 1, 0, 444445, 1, 1, 333333), "tick(1)\n", entries(0, 3, 111111, 1, 1, 222223, 1, 2, 666666),
            "tick(1)\n", entries(1, 3, 1000000));
        Script.run("the same clip and time", "addClip(4); addClipNode(0); addState(0, 100, true, 0); addState(0, 100, true, 0); addTransition(0, 1, 3); tick(1)\n",
            entries(0, 1, 1000000), "tick(3)\n", entries(0, 0, 1000000));
    }

    private static void times() {
        Script.run("the time of a phase", "addClip(7); addClipNode(0); addState(0, 100, false, 0)\n", entries(0, 0, 1000000),
            "tick(1); progress(false) = 142857\n", entries(0, 0, 1000000), "tick(1)\n", entries(0, 1, 1000000), "tick(5)\n", entries(0, 6, 1000000),
            "tick(1); progress(false) = 1000000\n", entries(0, 6, 1000000));
        Script.run("a clip of one tick", "addClip(1); addClipNode(0); addState(0, 1, false, 0)\n", entries(0, 0, 1000000), "tick(100); progress(false) = 1000000\n", entries(0, 0, 1000000));
    }

    private static void frozen() {
        String ways = RunTest.THREE + "addTransition(0, 1, 4); setInterruption(0, 2, false); addTransition(1, 2, 3); addCondition(1, 0, 2, 1)\n"
            + "setInterruption(1, 2, false); addTransition(2, 0, 10); addCondition(2, 1, 2, 1); tick(2)\n";
        Script.run("a frozen pose", ways, entries(0, 2, 500000, 1, 2, 500000), "set(0, 1); tick(1); state() = 1; target() = 2; isFrozen() = true\n",
            "# 666667 of it: 333333 each, and the first has the one that is missing\n",
            entries(0, 2, 333334, 1, 2, 333333, 2, 1, 333333), "tick(1)\n", entries(0, 2, 166667, 1, 2, 166667, 2, 2, 666666),
            "progress(false) = 200000; tick(1); isFrozen() = false\n", entries(2, 3, 1000000));
        // The parameters do not change what is frozen.
        Script.run("what is frozen stays", "addParameter(0); addParameter(2); addClip(10); addClip(10); addClipNode(0); addClipNode(1); addLine(0); addChild(2, 0, 0); addChild(2, 1, 10)\n",
            "addState(2, 100, true, 0); addState(2, 100, true, 0); addState(0, 100, true, 0); set(0, 5); addTransition(0, 1, 10); setInterruption(0, 1, false); addTransition(0, 2, 2); addCondition(1, 1, 2, 1)\n",
            "tick(5)\n", entries(0, 5, 500000, 1, 5, 500000), "set(1, 1); tick(1)\n", entries(0, 1, 500000, 0, 5, 250000, 1, 5, 250000), "set(0, 0)\n", entries(0, 1, 500000, 0, 5, 250000, 1, 5, 250000));
        // An entry whose weight becomes 0 is left out, and the first one gets what is missing.
        Script.run("entries without weight", "addParameter(0); addParameter(2); addClip(10); addClip(10); addClipNode(0); addClipNode(1)\n",
            "addLine(0) = 2; addChild(2, 0, 0); addChild(2, 1, 100); addLine(0) = 3; addChild(3, 0, 0); addChild(3, 2, 100); addLine(0) = 4; addChild(4, 0, 0); addChild(4, 3, 100)\n",
            "addState(4, 100, true, 0); addState(0, 100, true, 0); set(0, 1); addTransition(0, 1, 60); setInterruption(0, 1, false); addTransition(0, 1, 60); addCondition(1, 1, 2, 1)\n",
            entries(0, 0, 999999, 1, 0, 1), "set(1, 1); tick(1)\n", "isFrozen() = true\n", entries(0, 0, 983334, 0, 1, 16666));
    }

    private static void frozenTwice() {
        Script.run("a frozen pose in a frozen pose", RunTest.THREE, "addTransition(0, 1, 4); setInterruption(0, 2, false); addTransition(1, 2, 3); addCondition(1, 0, 2, 1)\n",
            "setInterruption(1, 2, false); addTransition(2, 0, 10); addCondition(2, 1, 2, 1); tick(2); set(0, 1); tick(2); set(1, 1); tick(1); state() = 2; target() = 0\n",
            "# 900000 of 166667, 166667 and 666666: 150000.3, 150000.3, 599999.4; one is missing\n",
            entries(0, 1, 100000, 0, 2, 150001, 1, 2, 150000, 2, 2, 599999));
    }

    private static void firing() {
        String one = "addClip(10); addEvent(0, 0, 7); addEvent(0, 5, 8); addClipNode(0)\n";
        Script.run("35 fired: a state that loops", one, "addState(0, 100, true, 0); fired() = 0; tick(1) = 1; tick(3) = 0; tick(1) = 1; event(1, 0) = 5; tick(5) = 1; fired() = 3; event(2, 0) = 10; tick(10) = 2\n");
        Script.run("a state that does not loop", one, "addState(0, 100, false, 0); addEvent(0, 9, 9); tick(8) = 2; tick(1) = 1; tick(100) = 0; fired() = 3\n");
        Script.run("once in several cycles", "addClip(1); addEvent(0, 0, 3); addClipNode(0); addState(0, 333, true, 0); tick(1) = 1; tick(4) = 4; fired() = 5\n");
        Script.run("a fresh track begins at its start", RunTest.THREE, "addEvent(1, 5, 1); addEvent(1, 4, 2); addTransition(0, 1, 0); setTiming(0, NONE, 50); tick(1) = 1; event(0, 1) = 1; tick(7) = 0; tick(1) = 1; event(1, 1) = 2\n");
        Script.run("not again where it stands", one, "addState(0, 100, true, 0); tick(5) = 2; tick(1) = 0; tick(3) = 0; tick(1) = 1\n");
        Script.run("the phase of an event is rounded down", "addClip(3); addEvent(0, 1, 1); addEvent(0, 2, 2); addClipNode(0); addState(0, 100, true, 0); tick(1) = 1; progress(false) = 333333; tick(1) = 1; progress(false) = 666666\n");
    }

    private static void shares() {
        // Threshold 0: all that has a weight fires; the source of a transition that ends has none.
        Script.run("the end of a transition", RunTest.THREE, "addEvent(0, 1, 1); addEvent(0, 2, 2); addEvent(0, 3, 3); setThreshold(0); addTransition(0, 1, 2); tick(1) = 1; tick(1) = 0; tick(5) = 0\n");
        Script.run("the share after the tick", RunTest.THREE, "addEvent(0, 1, 1); addEvent(1, 0, 2); setThreshold(25); addTransition(0, 1, 4); tick(1) = 2\n");
        Script.run("a frozen source fires nothing", RunTest.THREE, "addEvent(0, 2, 1); addEvent(0, 3, 1); addEvent(0, 4, 1); addEvent(1, 3, 5); setThreshold(0); addTransition(0, 1, 9); setInterruption(0, 1, false); addTransition(0, 2, 9)\n",
            "addCondition(1, 0, 2, 1); tick(2) = 1; set(0, 1); tick(8) = 0; isFrozen() = true\n");
    }

    private static void thresholds() {
        String half = "addParameter(0); addClip(10); addClip(10); addEvent(0, 0, 1); addEvent(1, 0, 2); addClipNode(0); addClipNode(1); addLine(0); addChild(2, 0, 0); addChild(2, 1, 100); addState(2, 100, true, 0)\n";
        Script.run("as heavy as the threshold", half, "set(0, 50); setThreshold(50); tick(1) = 2\n");
        Script.run("lighter than the threshold", half, "set(0, 50); setThreshold(51); tick(1) = 0\n");
        Script.run("one of two", half, "set(0, 51); setThreshold(51); tick(1) = 1; event(0, 1) = 2; event(0, 2) = 1\n");
        Script.run("the whole", half, "setThreshold(100); tick(1) = 1; event(0, 2) = 0\n");
        Script.run("no weight", half, "setThreshold(0); tick(1) = 1; event(0, 2) = 0\n");
        Script.run("the first threshold", half, "set(0, 1); tick(1) = 2\n");
    }

    private static void order() {
        Script.run("36 the source before the target", "addClip(10); addClip(10); addEvent(0, 1, 1); addEvent(1, 1, 2); addEvent(1, 0, 3); addClipNode(0); addClipNode(1)\n",
            "addState(1, 100, true, 0); addState(0, 100, true, 0); addTransition(0, 1, 5); tick(1) = 3\n",
            "event(0, 1) = 3; event(0, 2) = 1; event(0, 3) = 0; event(1, 1) = 2; event(1, 2) = 1; event(1, 3) = 0; event(2, 1) = 1; event(2, 2) = 0; event(2, 3) = 1\n",
            "event(0, 0) = 1; event(2, 0) = 1; count(6) = 3\n");
    }

    private static void kept() {
        Script.run("36 the latest 30", "event(0, 0)" + INDEX, "event(0, 9)" + INDEX,
            "addClip(1); addEvent(0, 0, 42); addClipNode(0); addState(0, 100, true, 0); tick(30) = 30\n",
            "count(6) = 30; event(0, 0) = 1; event(29, 0) = 30\n", "event(30, 0)" + INDEX, "event(-1, 0)" + INDEX,
            "tick(5) = 5; fired() = 35; count(6) = 30; event(0, 0) = 6; event(29, 0) = 35; event(24, 0) = 30; event(3, 1) = 42; event(3, 2) = 0; event(3, 3) = 0\n",
            "event(0, 4)" + ARGUMENT, "event(0, -1)" + ARGUMENT, "event(30, 4)" + INDEX, "tick(100) = 100; event(0, 0) = 106; fired() = 135\n");
    }
}
