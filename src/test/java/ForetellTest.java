/** Promises 37 to 42: foretelling, structure, images and numbers. */
final class ForetellTest {
    private static final String INDEX = " = throws IndexOutOfBoundsException\n";
    private static final String ARGUMENT = " = throws IllegalArgumentException\n";
    private static final String STATE = " = throws IllegalStateException\n";

    public static void main(String[] args) {
        foretelling();
        ticksTo();
        steps();
        keeping();
        restoring();
        counting();
        Script.end();
    }

    private static void foretelling() {
        String way = "addTransition(0, 1, 3); addCondition(0, 0, 2, 1); setTiming(0, 20, 0); addEvent(0, 1, 5); addEvent(1, 1, 5); addTransition(1, 2, 2); setTiming(1, 60, 0)\n";
        Script.run("37 foretell", "foretell(1)" + STATE, "foretell(0)" + ARGUMENT, "foretell(101)" + ARGUMENT, RunTest.THREE, way,
            "foretell(0)" + ARGUMENT, "foretell(101)" + ARGUMENT, "foretell(100) = 0; set(0, 1); foretell(2) = 0; foretell(3) = 1; foretell(6) = 1; foretell(8) = 1; foretell(9) = 2; foretell(100) = 2\n",
            "value(0) = 1; progress(false) = 0; count(5) = 0; fired() = 0; transition() = -1; tick(3) = 2; value(0) = 0; transition() = 0; foretell(1) = 1; foretell(6) = 2; elapsed() = 1; count(6) = 2\n");
    }

    private static void ticksTo() {
        String way = "addTransition(0, 1, 3); addCondition(0, 0, 2, 1); setTiming(0, 20, 0); addEvent(0, 1, 5); addTransition(1, 2, 2); setTiming(1, 60, 0)\n";
        Script.run("38 ticksTo", "ticksTo(0)" + INDEX, RunTest.THREE, way, "ticksTo(3)" + INDEX, "ticksTo(-1)" + INDEX,
            "ticksTo(0) = 0; ticksTo(1) = -1; set(0, 1); ticksTo(0) = 0; ticksTo(1) = 5; ticksTo(2) = 10; value(0) = 1; count(5) = 0; fired() = 0; progress(false) = 0\n",
            "tick(3); ticksTo(1) = 2; ticksTo(0) = -1; tick(2); ticksTo(1) = 0; state() = 1; transition() = -1; ticksTo(2) = 5\n");
        Script.run("38 within 100 ticks", "addClip(500); addClipNode(0); addState(0, 100, true, 0); addState(0, 100, true, 0); addTransition(0, 1, 1); setTiming(0, 20, 0)\n",
            "ticksTo(1) = -1; tick(1); ticksTo(1) = 100; tick(1); ticksTo(1) = 99; tick(99); ticksTo(1) = 0\n");
    }

    private static void steps() {
        Script.run("39 steps", "steps(0, 0)" + INDEX, "addClip(5); addClipNode(0)\n", "addState(0, 100, true, 0)\n".repeat(7),
            "addTransition(0, 1, 0); addTransition(1, 2, 0); addTransition(2, 3, 0); addTransition(0, 3, 0); addTransition(3, 4, 0); addTransition(4, 0, 0); addTransition(6, 6, 0)\n",
            "steps(0, 0) = 0; steps(0, 1) = 1; steps(0, 2) = 2; steps(0, 3) = 1; steps(0, 4) = 2; steps(1, 0) = 4; steps(0, 5) = -1; steps(5, 0) = -1; steps(6, 6) = 0; steps(6, 0) = -1\n",
            "steps(0, 7)" + INDEX, "steps(7, 0)" + INDEX, "steps(0, -1)" + INDEX, "steps(-1, 0)" + INDEX,
            "# from any state, whatever the conditions and exits are\n",
            "addTransition(ANY, 2, 5); addParameter(2); addCondition(7, 0, 2, 1); setTiming(0, 300, 0); steps(5, 2) = 1; steps(5, 3) = 2; steps(5, 1) = 5; steps(2, 2) = 0; steps(5, 6) = -1; steps(4, 2) = 1; steps(0, 1) = 1\n");
        Script.run("39 the longest way", "addClip(5); addClipNode(0)\n", "addState(0, 100, true, 0)\n".repeat(10),
            "addTransition(8, 9, 0); addTransition(7, 8, 0); addTransition(6, 7, 0); addTransition(5, 6, 0); addTransition(4, 5, 0); addTransition(3, 4, 0); addTransition(2, 3, 0); addTransition(1, 2, 0); addTransition(0, 1, 0)\n",
            "steps(0, 9) = 9; steps(9, 0) = -1; steps(3, 9) = 6\n");
    }

    private static final String RUNNING = RunTest.THREE + "addParameter(0) = 2; addEvent(0, 1, 5); addTransition(0, 1, 10); setInterruption(0, 2, false); addTransition(1, 2, 10); addCondition(1, 0, 2, 1)\n"
        + "setInterruption(1, 2, false); addTransition(2, 0, 10); addCondition(2, 1, 2, 1); setInterruption(2, 2, false)\n";

    private static void keeping() {
        Script.run("40 keep", "keep(2)" + ARGUMENT, "keep(-1)" + ARGUMENT, "keep(0)" + STATE, "restore(0)" + STATE, "restore(2)" + ARGUMENT, RUNNING,
            "restore(0)" + STATE, "restore(1)" + STATE, "keep(0) = 0; tick(7); keep(1) = 7; count(5) = 7; restore(0) = 0; progress(false) = 0; transition() = -1; restore(1) = 7; elapsed() = 7; progress(true) = 700000\n",
            "keep(2)" + ARGUMENT, "restore(2)" + ARGUMENT, "restore(-1)" + ARGUMENT, "keep(0) = 7; tick(1); keep(0) = 8; restore(1) = 7; restore(0) = 8\n");
    }

    private static void restoring() {
        Script.run("41 all that runs is restored", RUNNING, "tick(3); set(0, 1); set(2, -9); tick(3); isFrozen() = true; elapsed() = 3; set(1, 1); keep(1) = 6; fired() = 1\n",
            "poseSize() = 3; poseWeight(0) = 490000; tick(1); transition() = 2; poseSize() = 4; set(2, 30); tick(100)\n",
            "reset(); restore(1) = 6; isFrozen() = true; elapsed() = 3; transition() = 1; state() = 1; target() = 2; progress(false) = 300000; progress(true) = 300000; value(0) = 0; value(1) = 1; value(2) = -9\n",
            "fired() = 1; count(6) = 1; event(0, 0) = 1; count(5) = 6; poseSize() = 3; poseWeight(0) = 490000; poseTime(0) = 3\n",
            "# one interruption has led to it, so one more can\n",
            "blocked(2) = 0; tick(1); transition() = 2; set(0, 1); set(1, 1); blocked(0) = 1; restore(1) = 6; blocked(2) = 0\n");
        Script.run("41 what has been added stays", RUNNING, "set(2, 5); keep(0) = 0; addParameter(0) = 3; set(3, 60); addState(0, 100, true, 0) = 3; addTransition(0, 3, 5) = 3; addClip(5) = 3; addClipNode(3) = 3; setThreshold(9); type(65)\n",
            "set(2, 6); addCondition(0, 0, 2, 1); tick(2); restore(0) = 0; value(3) = 0; value(2) = 5; count(0) = 4; count(1) = 4; count(2) = 4; count(3) = 4; count(4) = 4; count(7) = 1; setThreshold(1) = 9; blocked(0) = 3; blocked(3) = 0\n");
        Script.run("41 the events are those that were kept", "addClip(1); addEvent(0, 0, 1); addClipNode(0); addState(0, 100, true, 0); tick(33); keep(0) = 33; tick(40); restore(0) = 33; fired() = 33; event(0, 0) = 4; event(29, 0) = 33; tick(1) = 1; event(29, 0) = 34; restore(0) = 33; event(29, 0) = 33\n");
    }

    private static void counting() {
        Script.run("42 count", "count(-1)" + ARGUMENT, "count(8)" + ARGUMENT, RUNNING, "count(0) = 3; count(1) = 3; count(2) = 3; count(3) = 3; count(4) = 3; count(5) = 0; count(6) = 0; count(7) = 0\n",
            "addLine(2); type(1); type(2); tick(4); count(2) = 4; count(5) = 4; count(6) = 1; count(7) = 2\n", "count(8)" + ARGUMENT);
    }
}
