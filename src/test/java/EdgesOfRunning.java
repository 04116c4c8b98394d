/** The boundaries that the promises 20 to 42 name: what runs, what is asked and foretold, and images. */
final class EdgesOfRunning {
    private static final String THREE = RunTest.THREE;
    private static final String ONE = EdgesOfParts.ONE;
    /** Frozen after 6 ticks, in transition 1 from B to C, with an event, a text and both images. */
    private static final String FROZEN = THREE + "addParameter(0) = 2; addParameter(1) = 3; addEvent(0, 1, 5); addLine(2) = 3; addChild(3, 0, 0); addTransition(0, 1, 10) = 0; addTransition(1, 2, 10) = 1; addTransition(2, 0, 10) = 2; addTransition(ANY, 0, 3) = 3\n"
        + "setInterruption(0, 2, false); setInterruption(1, 2, false); setInterruption(2, 2, false); addCondition(1, 0, 2, 1); addCondition(2, 1, 2, 1); addCondition(2, 1, 2, 1); addCondition(2, 1, 2, 1); addCondition(3, 3, 2, 1)\n"
        + "tick(2); keep(0) = 2; tick(1); set(0, 1); set(2, -9); tick(3); set(1, 1); set(2, 30); keep(1) = 6; type(65); type(62); state() = 1; target() = 2; isFrozen() = true\n";

    private EdgesOfRunning() {
    }

    static void test() {
        exceptions();
        precedence();
        tick();
        reset();
        where();
        progress();
        lengths();
        blocked();
        pose();
        events();
        foretell();
        ticksTo();
        steps();
        keep();
        restore();
        count();
    }

    private static void exceptions() {
        Sentences.in("Exceptions");
        Sentences.plain("Examples: Each of them begins with a new object", "The constants:", "NONE: there is none.", "ANY: any state.", "WHOLE: the whole", "The constructor and the methods follow");
        for (String example : new String[] {"An event that is fired again in each cycle:", "Two clips blended along a line:", "A transition of four ticks, in which both tracks show the same:", "A text whose state does not exist:", "Exceptions: state()"}) {
            Sentences.example(example);
        }
        String nothing = "A call that throws an exception changes nothing.";
        // Every exception of every method, once; Script sees that nothing has changed.
        Sentences.test(nothing, FROZEN,
            Sentences.index("set(4, 0)", "value(4)", "addEvent(3, 0, 0)", "addClipNode(3)", "addLine(4)", "addChild(4, 0, 0)", "addChild(3, 4, 0)", "addState(4, 100, true, 0)", "addTransition(3, 0, 5)", "addTransition(0, 3, 5)", "setTiming(4, 5, 5)", "setInterruption(4, 1, true)", "addCondition(4, 0, 2, 1)", "addCondition(0, 4, 2, 1)",
                "stateLength(3)", "partWeight(3, 0)", "partWeight(0, 3)", "blocked(4)", "poseClip(3)", "poseTime(3)", "poseWeight(3)", "event(1, 0)", "ticksTo(3)", "steps(3, 0)", "steps(0, 3)"),
            Sentences.argument("addParameter(3)", "set(2, 101)", "set(0, 2)", "addClip(501)", "addEvent(0, 10, 5)", "addEvent(0, 1, 100)", "addChild(0, 0, 5)", "addChild(3, 3, 5)", "addChild(3, 0, 101)", "addState(0, 401, false, 3)", "addState(0, 100, false, 4)", "addTransition(0, 1, 61)", "setTiming(0, 301, 5)", "setTiming(0, 5, 100)", "setInterruption(0, 5, true)"),
            Sentences.argument("addCondition(0, 0, 1, 1)", "addCondition(0, 0, 2, 0)", "setThreshold(101)", "type(256)", "tick(101)", "tick(0)", "event(0, 4)", "foretell(101)", "keep(2)", "restore(2)", "count(8)"),
            Sentences.state("addLine(0)", "addChild(3, 0, 0)", "setTiming(3, 5, 5)", "addCondition(2, 1, 2, 1)", "load()"));
        Sentences.test(nothing, Sentences.state("load()", "tick(1)", "state()", "progress(false)", "progress(true)", "foretell(1)", "keep(0)", "restore(0)"), ONE, Sentences.state("progress(true)", "restore(0)", "restore(1)"));
    }

    /** An object that has all there is room for: clip 0 with 5 events, line 18 with 5 children, line 19 with none, transition 0 with 3 conditions. */
    private static final String FULL = Sentences.times(4, "addParameter(0)") + Sentences.times(4, "addParameter(1)") + Sentences.times(12, "addClip(10)") + Sentences.times(5, "addEvent(0, 0, 5)")
        + Sentences.times(18, "addClipNode(0)") + "addLine(0) = 18; addLine(0) = 19; addChild(18, 0, 1); addChild(18, 0, 2); addChild(18, 0, 3); addChild(18, 0, 4); addChild(18, 0, 5) = 5\n" + Sentences.times(10, "addState(0, 100, true, 0)")
        + Sentences.times(23, "addTransition(0, 1, 5)") + "addTransition(ANY, 1, 5) = 23\n" + Sentences.times(3, "addCondition(0, 4, 2, 1)") + Sentences.times(150, "type(65)");

    private static void precedence() {
        String first = "If several exceptions apply, the one that is listed first is thrown.";
        Sentences.test(first, FULL, Sentences.argument("addParameter(3)", "addClip(501)", "addEvent(0, 10, 5)", "addEvent(0, 0, 100)", "type(256)"), Sentences.index("set(8, 101)", "addEvent(12, 10, 100)", "addClipNode(12)", "addLine(8)"));
        Sentences.test(first, FULL, Sentences.index("addChild(20, 20, 101)", "addChild(0, 20, 101)", "addChild(18, 20, 5)", "addState(20, 401, true, 4)", "addTransition(10, 0, 61)", "addTransition(0, 10, 61)", "setTiming(24, 301, 100)", "setInterruption(24, 5, true)", "addCondition(24, 8, 4, 101)", "addCondition(0, 8, 4, 101)", "addCondition(24, 0, 4, 101)", "event(0, 4)"),
            Sentences.argument("addChild(18, 19, 101)", "addChild(18, 19, 1)", "addChild(18, 0, 101)", "addChild(0, 19, 1)", "addState(19, 401, true, 0)", "addState(19, 100, true, 4)", "addTransition(0, 1, 61)", "setTiming(23, 301, 5)", "setTiming(23, 5, 100)", "addCondition(0, 0, 4, 0)", "addCondition(0, 4, 2, 2)"));
        Sentences.test(first, Sentences.argument("tick(0)", "tick(101)", "foretell(0)", "foretell(101)", "keep(2)", "keep(-1)", "restore(2)", "restore(-1)"), ONE, Sentences.argument("restore(2)"), Sentences.state("restore(1)"), Sentences.index("event(0, 4)", "partWeight(1, 1)"));
    }

    private static void tick() {
        Sentences.in("Promise 20: tick");
        Sentences.plain("Carries out ticks.");
        Sentences.test("- `ticks`: how many, 1 to 100", ONE, "tick(1) = 0; count(5) = 1; progress(false) = 100000; tick(100) = 0; count(5) = 101; progress(false) = 10100000\n", Sentences.argument("tick(0)", "tick(101)"));
        Sentences.test("Returns how many events were fired.", "addClip(1); addEvent(0, 0, 1); addEvent(0, 0, 2); addEvent(0, 0, 3); addEvent(0, 0, 4); addEvent(0, 0, 5); addClipNode(0); addState(0, 100, true, 0)\n", "tick(1) = 5; tick(100) = 500; fired() = 505; count(6) = 30\n");
        Sentences.test("Returns how many events were fired.", "addClip(10); addEvent(0, 1, 1); addClipNode(0); addState(0, 100, true, 0)\n", "tick(1) = 1; tick(1) = 0; tick(8) = 0; tick(1) = 1; tick(10) = 1; tick(99) = 9; fired() = 12; reset(); tick(1) = 1\n");
        Sentences.test("Throws `IllegalArgumentException` if ticks is out of range", Sentences.argument("tick(0)", "tick(101)"), ONE, Sentences.argument("tick(0)", "tick(-1)", "tick(101)", "tick(MIN)", "tick(MAX)"), "tick(1) = 0; tick(100) = 0; count(5) = 101\n");
        Sentences.test("Throws `IllegalStateException` if there are no states", Sentences.state("tick(1)", "tick(100)"), EdgesOfParts.CLIP, Sentences.state("tick(1)"), "count(5) = 0; addState(0, 100, true, 0); tick(1) = 0; count(5) = 1\n");
    }

    private static void reset() {
        Sentences.in("Promise 21: reset");
        String anew = "Begins anew: all parameters become 0, the machine is as it was when the first state was added, no events are kept, and the numbers of ticks and of events that were fired are 0.";
        Sentences.test(anew, FROZEN, "reset() = 6; value(0) = 0; value(1) = 0; value(2) = 0; value(3) = 0; state() = 0; target() = -1; transition() = -1; elapsed() = -1; isFrozen() = false; progress(false) = 0; count(5) = 0; count(6) = 0; fired() = 0\n", Sentences.index("event(0, 0)"), Sentences.state("progress(true)"),
            Sentences.pose(0, 0, 1000000), "count(0) = 4; count(1) = 3; count(2) = 4; count(3) = 3; count(4) = 4; count(7) = 2; blocked(0) = 0; setInterruption(0, 2, false) = 2; tick(1) = 1; event(0, 0) = 1; transition() = 0; isFrozen() = false\n");
        Sentences.test(anew, Sentences.times(8, "addParameter(0)"), "set(0, -100); set(7, 100); reset() = 0; value(0) = 0; value(7) = 0; poseSize() = 0\n", Sentences.state("state()"));
        // The first state is fresh again, and begins at 0, whatever state there was.
        Sentences.test(anew, "addClip(10); addEvent(0, 0, 7); addClipNode(0); addState(0, 100, true, 0); addState(0, 100, false, 0); addTransition(0, 1, 0); setTiming(0, 10, 50); tick(20) = 1; state() = 1; progress(false) = 1000000; setThreshold(5); reset() = 20; state() = 0; progress(false) = 0; tick(1) = 1; fired() = 1; setThreshold(5) = 5\n");
        Sentences.test("Images stay.", FROZEN, "reset(); restore(0) = 2; elapsed() = 2; isFrozen() = false; value(2) = 0; reset() = 2; restore(1) = 6; elapsed() = 3; isFrozen() = true; value(2) = 30; reset() = 6; restore(0) = 2\n");
        Sentences.test("Returns the number of ticks that there were.", "reset() = 0\n", ONE, "reset() = 0; tick(1); reset() = 1; reset() = 0; tick(100); tick(100); reset() = 200; tick(5); keep(0) = 5; tick(7); restore(0); reset() = 5\n");
    }

    private static void where() {
        String two = THREE + "addTransition(2, 0, 2) = 0; addTransition(0, 2, 2) = 1; setTiming(1, 10, 0)\n";
        Sentences.in("Promise 22: state");
        Sentences.plain("Returns the state.");
        Sentences.test("Returns the present state, or the source state of the present transition.", two, "state() = 0; tick(1); state() = 0; tick(1); state() = 0; elapsed() = 1; tick(1); state() = 2; elapsed() = -1; tick(1); state() = 2; elapsed() = 1; tick(1); state() = 0\n");
        Sentences.test("Throws `IllegalStateException` if there are no states", Sentences.state("state()"), EdgesOfParts.CLIP, Sentences.state("state()"), "reset()\n", Sentences.state("state()"), "addState(0, 100, true, 0) = 0; state() = 0\n");
        Sentences.in("Promise 23: target");
        Sentences.plain("Returns the target state of the present transition.");
        Sentences.test("Returns the state; NONE if the machine is idle, or there are no states.", "target() = -1\n", two, "target() = -1; tick(1); target() = -1; tick(1); target() = 2; tick(1); target() = -1; tick(1); target() = 0; tick(1); target() = -1\n");
        Sentences.in("Promise 24: transition");
        Sentences.plain("Returns the present transition.");
        Sentences.test("Returns the transition; NONE if the machine is idle, or there are no states.", "transition() = -1\n", two, "transition() = -1; tick(1); transition() = -1; tick(1); transition() = 1; tick(1); transition() = -1; tick(1); transition() = 0; tick(1); transition() = -1\n");
        Sentences.in("Promise 25: elapsed");
        Sentences.plain("Returns the elapsed time of the present transition.");
        Sentences.test("Returns the elapsed time; NONE if the machine is idle, or there are no states.", "elapsed() = -1\n", two, "elapsed() = -1; tick(1); elapsed() = -1; tick(1); elapsed() = 1; tick(1); elapsed() = -1; tick(1); elapsed() = 1; tick(1); elapsed() = -1\n");
        Sentences.test("Returns the elapsed time; NONE if the machine is idle, or there are no states.", THREE, "addTransition(0, 1, 60); tick(1); elapsed() = 1; tick(58); elapsed() = 59; tick(1); elapsed() = -1\n");
        Sentences.in("Promise 26: isFrozen");
        Sentences.plain("Tells whether the source of the present transition is a frozen pose.");
        Sentences.test("Returns true if it is; false if not, or the machine is idle.", "isFrozen() = false\n", THREE, "addTransition(0, 1, 4) = 0; setInterruption(0, 2, false); addTransition(1, 2, 2) = 1; addCondition(1, 0, 2, 1); isFrozen() = false; tick(1); isFrozen() = false; set(0, 1); tick(1); isFrozen() = true; tick(1); isFrozen() = false; transition() = -1\n");
        Sentences.test("Returns true if it is; false if not, or the machine is idle.", THREE, "addTransition(0, 1, 4) = 0; setInterruption(0, 2, false); addTransition(1, 2, 0) = 1; addCondition(1, 0, 2, 1); tick(1); set(0, 1); tick(1); state() = 2; isFrozen() = false\n");
    }

    private static void progress() {
        Sentences.in("Promise 27: progress");
        Sentences.plain("Returns the progress of a track.", "Returns the progress.");
        String track = "- `target`: true for the target track; false for the only track, or the source track (if the source is frozen, the one that is not played any more)";
        Sentences.test(track, THREE, "addTransition(0, 1, 4) = 0; setTiming(0, 20, 50); setInterruption(0, 2, false); addTransition(1, 2, 9) = 1; addCondition(1, 0, 2, 1); progress(false) = 0; tick(2); progress(false) = 200000\n", Sentences.state("progress(true)"),
            "tick(1); progress(false) = 300000; progress(true) = 600000; set(0, 1); tick(1); isFrozen() = true; progress(false) = 600000; progress(true) = 100000; tick(7); progress(false) = 600000; progress(true) = 800000; tick(1); transition() = -1; progress(false) = 900000\n");
        Sentences.test("Throws `IllegalStateException` if there are no states", Sentences.state("progress(false)", "progress(true)"), EdgesOfParts.CLIP, Sentences.state("progress(false)", "progress(true)"), "addState(0, 100, true, 0); progress(false) = 0\n");
        Sentences.test("or target is true and the machine is idle", THREE, Sentences.state("progress(true)"), "addTransition(0, 1, 2); tick(1); progress(true) = 100000; tick(1)\n", Sentences.state("progress(true)"), "progress(false) = 200000; reset()\n", Sentences.state("progress(true)"));
    }

    private static void lengths() {
        String line = "addParameter(0); addClip(1); addClip(500); addClipNode(0); addClipNode(1); addLine(0) = 2; addChild(2, 0, -100); addChild(2, 1, 100); addState(2, 100, true, 0) = 0; addState(1, 100, true, 0) = 1\n";
        Sentences.in("Promise 28: stateLength");
        Sentences.plain("Returns the length.");
        Sentences.test("Returns the present length of a state.", line, "set(0, -100); stateLength(0) = 1; set(0, -99); stateLength(0) = 3; set(0, 0); stateLength(0) = 250; set(0, 99); stateLength(0) = 497; set(0, 100); stateLength(0) = 500; stateLength(1) = 500; reset(); stateLength(0) = 250\n");
        Sentences.test("- `state`: the state", line, "stateLength(0) = 250; stateLength(1) = 500\n", Sentences.index("stateLength(-1)", "stateLength(2)"));
        Sentences.test("Throws `IndexOutOfBoundsException` if there is no such state", Sentences.index("stateLength(0)", "stateLength(-1)"), line, Sentences.index("stateLength(2)", "stateLength(-1)", "stateLength(MIN)", "stateLength(MAX)"), Sentences.times(8, "addState(0, 100, true, 0)"), "stateLength(9) = 1\n", Sentences.index("stateLength(10)"));
        Sentences.in("Promise 29: partWeight");
        Sentences.plain("Returns the weight of a clip in the blend of the motion of a state with the weight WHOLE.");
        Sentences.test("- `state`: the state", line, "partWeight(0, 1) = 500000; partWeight(1, 1) = 1000000\n", Sentences.index("partWeight(-1, 0)", "partWeight(2, 0)"));
        Sentences.test("- `clip`: the clip", line, "set(0, -50); partWeight(0, 0) = 750000; partWeight(0, 1) = 250000\n", Sentences.index("partWeight(0, -1)", "partWeight(0, 2)"));
        Sentences.test("Returns the weight; 0 if the clip is not in it.", line, "addClip(9) = 2; partWeight(0, 2) = 0; partWeight(1, 0) = 0; set(0, -100); partWeight(0, 1) = 0; partWeight(0, 0) = 1000000; set(0, 100); partWeight(0, 0) = 0; partWeight(0, 1) = 1000000; set(0, 99); partWeight(0, 0) = 5000\n");
        Sentences.test("Throws `IndexOutOfBoundsException` if there is no such state or clip", Sentences.index("partWeight(0, 0)"), "addClip(5); addClipNode(0)\n", Sentences.index("partWeight(0, 0)"), "addState(0, 100, true, 0); partWeight(0, 0) = 1000000\n", Sentences.index("partWeight(0, 1)", "partWeight(1, 0)", "partWeight(0, -1)", "partWeight(-1, 0)", "partWeight(1, 1)", "partWeight(MIN, 0)", "partWeight(MAX, 0)", "partWeight(0, MIN)", "partWeight(0, MAX)"), Sentences.times(11, "addClip(1)"), "partWeight(0, 11) = 0\n", Sentences.index("partWeight(0, 12)"));
    }

    private static void blocked() {
        Sentences.in("Promise 30: blocked");
        String some = THREE + "addTransition(0, 1, 9) = 0; addTransition(0, 2, 9) = 1; addTransition(1, 0, 9) = 2; addTransition(ANY, 0, 9) = 3; addTransition(ANY, 2, 9) = 4; addCondition(4, 1, 2, 1)\n";
        Sentences.test("Tells whether a transition could be taken now, at the beginning of a tick.", some, "blocked(0) = 0; tick(1); transition() = 0; blocked(0) = 1; blocked(1) = 1; setInterruption(0, 1, false); blocked(1) = 0; tick(1); transition() = 3\n");
        Sentences.test("- `transition`: the transition", some, "blocked(0) = 0; blocked(4) = 3\n", Sentences.index("blocked(-1)", "blocked(5)"));
        Sentences.test("Returns 0 if it is a possible candidate (also if another one comes before it)", some, "blocked(0) = 0; blocked(1) = 0; foretell(1) = 1; set(1, 1); blocked(4) = 0; blocked(0) = 0; foretell(1) = 2\n");
        Sentences.test("1 if it is no candidate (also if there are no states)", some, "blocked(2) = 1; blocked(3) = 1; setTiming(2, 300, 0); blocked(2) = 1; addCondition(2, 0, 2, 1); blocked(2) = 1\n");
        Sentences.test("otherwise 2 if its exit is not reached", some, "setTiming(0, 10, 0); addCondition(0, 0, 2, 1); blocked(0) = 2; setTiming(1, 300, 0); tick(1); blocked(0) = 3; setTiming(0, 11, 0); blocked(0) = 2; set(0, 1); blocked(0) = 2; setTiming(0, 10, 0); blocked(0) = 0; setTiming(0, 0, 0); blocked(0) = 0\n");
        Sentences.test("otherwise 3 plus the index, from 0, of the first condition that does not hold.", some, "addParameter(0) = 2; addCondition(0, 0, 2, 1); addCondition(0, 1, 2, 1); addCondition(0, 2, 0, 0); blocked(0) = 3; set(0, 1); blocked(0) = 4; set(1, 1); blocked(0) = 5; set(2, 1); blocked(0) = 0; set(1, 0); blocked(0) = 4; set(0, 0); blocked(0) = 3; set(2, 0); blocked(0) = 3\n");
        Sentences.test("Throws `IndexOutOfBoundsException` if there is no such transition", Sentences.index("blocked(0)"), THREE, Sentences.index("blocked(0)"), "addTransition(0, 1, 5) = 0; blocked(0) = 0\n", Sentences.index("blocked(1)", "blocked(-1)", "blocked(MIN)", "blocked(MAX)"), Sentences.times(23, "addTransition(0, 1, 5)"), "blocked(23) = 0\n", Sentences.index("blocked(24)"));
    }

    private static void pose() {
        String line = "addParameter(0); addClip(10); addClip(10); addClipNode(0); addClipNode(1); addLine(0) = 2; addChild(2, 0, 0); addChild(2, 1, 10)\n";
        Sentences.in("Promise 31: poseSize");
        Sentences.plain("Returns the number of entries of the present pose.");
        Sentences.test("Returns the number; 0 if there are no states.", "poseSize() = 0\n", line, "poseSize() = 0; addState(2, 100, true, 0); poseSize() = 1; set(0, 1); poseSize() = 2; set(0, 9); poseSize() = 2; set(0, 10); poseSize() = 1\n");
        String[] questions = {"poseClip", "poseTime", "poseWeight"};
        int[][] answers = {{0, 1}, {3, 3}, {900000, 100000}};
        String[] returned = {"clip", "time", "weight"};
        for (int i = 0; i < questions.length; i++) {
            String question = questions[i];
            Sentences.in("Promise " + (32 + i) + ": " + question);
            Sentences.plain("Returns the " + returned[i] + " of an entry of the present pose.", "Returns the " + returned[i] + ".");
            String both = question + "(0) = " + answers[i][0] + "; " + question + "(1) = " + answers[i][1] + "\n";
            Sentences.test("- `entry`: the index of the entry, from 0", line, "addState(2, 100, true, 0); tick(3); set(0, 1)\n", both, Sentences.index(question + "(-1)", question + "(2)"));
            Sentences.test("Throws `IndexOutOfBoundsException` if there is no such entry", Sentences.index(question + "(0)", question + "(-1)"), line, Sentences.index(question + "(0)"), "addState(2, 100, true, 0); tick(3)\n", Sentences.index(question + "(1)", question + "(-1)"), "set(0, 1)\n", both,
                Sentences.index(question + "(2)", question + "(-1)", question + "(MIN)", question + "(MAX)"), "set(0, 0)\n", Sentences.index(question + "(1)"));
        }
    }

    private static void events() {
        String many = "addClip(1); addClip(1); addEvent(1, 0, 42); addClipNode(1); addState(0, 100, true, 0) = 0; addState(0, 100, true, 0) = 1\n";
        Sentences.in("Promise 35: fired");
        Sentences.plain("Returns the number.");
        Sentences.test("Returns how many events have been fired in all, since the beginning or the latest reset().", "fired() = 0\n", many, "fired() = 0; tick(1); fired() = 1; tick(30); fired() = 31; tick(100); fired() = 131; keep(0); reset(); fired() = 0; tick(2); fired() = 2; restore(0); fired() = 131; tick(1); fired() = 132\n");
        Sentences.in("Promise 36: event");
        Sentences.plain("Returns a property of an event that is kept.", "Returns the property.");
        Sentences.test("- `event`: its index, from 0 for the oldest one that is kept", many, "tick(2); event(0, 0) = 1; event(1, 0) = 2\n", Sentences.index("event(-1, 0)", "event(2, 0)"), "tick(29); event(0, 0) = 2; event(29, 0) = 31\n", Sentences.index("event(30, 0)"));
        Sentences.test("- `what`: 0 the number of the tick, 1 its id, 2 its clip, 3 its state", many, "addTransition(0, 1, 0); setTiming(0, 300, 0); tick(3); event(2, 0) = 3; event(2, 1) = 42; event(2, 2) = 1; event(2, 3) = 0; tick(1); event(3, 0) = 4; event(3, 3) = 1\n", Sentences.argument("event(2, -1)", "event(2, 4)"));
        Sentences.test("Throws `IndexOutOfBoundsException` if there is no such event", Sentences.index("event(0, 0)"), many, Sentences.index("event(0, 0)", "event(0, 9)"), "tick(1); event(0, 0) = 1\n", Sentences.index("event(1, 0)", "event(-1, 0)", "event(1, 4)", "event(MIN, 0)", "event(MAX, 0)"), "tick(40); event(29, 3) = 0\n", Sentences.index("event(30, 0)", "event(30, -1)"), "reset()\n", Sentences.index("event(0, 0)"));
        Sentences.test("Throws `IllegalArgumentException` if what is out of range", many, "tick(1); event(0, 0) = 1; event(0, 3) = 0\n", Sentences.argument("event(0, -1)", "event(0, 4)", "event(0, MIN)", "event(0, MAX)"));
    }

    private static void foretell() {
        Sentences.in("Promise 37: foretell");
        Sentences.plain("Returns the state.");
        String ways = THREE + "addTransition(0, 1, 3) = 0; setTiming(0, 20, 0); addCondition(0, 0, 2, 1); addTransition(1, 2, 0) = 1; setTiming(1, 60, 0)\n";
        String which = "Foretells, changing nothing, which state is the present state, or the target state if the machine is in a transition, after ticks.";
        Sentences.test(which, ways, "foretell(100) = 0; set(0, 1); foretell(2) = 0; foretell(3) = 1; foretell(5) = 1; foretell(6) = 1; foretell(8) = 1; foretell(9) = 2; foretell(100) = 2\n",
            "value(0) = 1; state() = 0; transition() = -1; progress(false) = 0; count(5) = 0; tick(3); transition() = 0; value(0) = 0; foretell(1) = 1; foretell(6) = 2; foretell(5) = 1\n");
        Sentences.test(which, FROZEN, "foretell(1) = 0; foretell(9) = 0; isFrozen() = true; elapsed() = 3; transition() = 1; value(1) = 1; count(5) = 6; fired() = 1; progress(true) = 300000; poseSize() = 3; poseWeight(0) = 490000; restore(1) = 6; elapsed() = 3; restore(0) = 2; elapsed() = 2\n");
        Sentences.test("- `ticks`: how many, 1 to 100", "addClip(500); addClipNode(0); addState(0, 100, true, 0); addState(0, 100, true, 0); addTransition(0, 1, 0); setTiming(0, 20, 0); foretell(1) = 0; foretell(100) = 0; tick(1); foretell(100) = 1; foretell(99) = 0; tick(99); foretell(1) = 1\n", Sentences.argument("foretell(0)", "foretell(101)"));
        Sentences.test("Throws `IllegalArgumentException` if ticks is out of range", Sentences.argument("foretell(0)", "foretell(101)"), ONE, Sentences.argument("foretell(0)", "foretell(-1)", "foretell(101)", "foretell(MIN)", "foretell(MAX)"), "foretell(1) = 0; foretell(100) = 0\n");
        Sentences.test("Throws `IllegalStateException` if there are no states", Sentences.state("foretell(1)", "foretell(100)"), EdgesOfParts.CLIP, Sentences.state("foretell(1)"), "addState(0, 100, true, 0); foretell(1) = 0\n");
    }

    private static void ticksTo() {
        Sentences.in("Promise 38: ticksTo");
        String first = "Foretells, changing nothing, after how many ticks, from 0 to 100, the machine is idle in a state for the first time.";
        String ways = THREE + "addTransition(0, 1, 3) = 0; setTiming(0, 20, 0); addCondition(0, 0, 2, 1); addTransition(1, 2, 0) = 1; setTiming(1, 60, 0); addTransition(2, 0, 1) = 2; setTiming(2, 30, 0)\n";
        Sentences.test(first, ways, "ticksTo(0) = 0; ticksTo(1) = -1; ticksTo(2) = -1; set(0, 1); ticksTo(0) = 0; ticksTo(1) = 5; ticksTo(2) = 9; value(0) = 1; count(5) = 0; progress(false) = 0; transition() = -1\n",
            "# in the transition it is idle in neither state\n", "tick(3); transition() = 0; ticksTo(1) = 2; ticksTo(2) = 6; ticksTo(0) = 9; tick(1); ticksTo(1) = 1; tick(1); ticksTo(1) = 0; ticksTo(2) = 4; ticksTo(0) = 7; fired() = 0\n");
        // A state that is left in the tick in which it is reached is never the present one after a tick.
        Sentences.test(first, THREE, "addTransition(0, 1, 0); addTransition(1, 2, 0); ticksTo(0) = 0; ticksTo(1) = -1; ticksTo(2) = 1; tick(1); ticksTo(2) = 0; ticksTo(0) = -1\n");
        String slow = "addClip(500); addClipNode(0); addState(0, 100, true, 0); addState(0, 100, true, 0); addTransition(0, 1, 1); setTiming(0, 20, 0)\n";
        Sentences.test("- `state`: the state", slow, "ticksTo(0) = 0; tick(100); ticksTo(1) = 1\n", Sentences.index("ticksTo(-1)", "ticksTo(2)"));
        // At the exit after 100 ticks, and taken in the next one: 101, 100, 99.
        Sentences.test("Returns the number of ticks; NONE if it is not within 100 ticks.", slow, "ticksTo(1) = -1; tick(1); ticksTo(1) = 100; tick(1); ticksTo(1) = 99; ticksTo(0) = 0; tick(98); ticksTo(1) = 1; tick(1); ticksTo(1) = 0; ticksTo(0) = -1\n");
        Sentences.test("Throws `IndexOutOfBoundsException` if there is no such state", Sentences.index("ticksTo(0)", "ticksTo(-1)"), slow, Sentences.index("ticksTo(2)", "ticksTo(-1)", "ticksTo(MIN)", "ticksTo(MAX)"), Sentences.times(8, "addState(0, 100, true, 0)"), "ticksTo(9) = -1\n", Sentences.index("ticksTo(10)"));
    }

    private static void steps() {
        Sentences.in("Promise 39: steps");
        String ten = EdgesOfParts.CLIP + Sentences.times(10, "addState(0, 100, true, 0)");
        String chain = ten + "addTransition(8, 9, 0); addTransition(7, 8, 0); addTransition(6, 7, 0); addTransition(5, 6, 0); addTransition(4, 5, 0); addTransition(3, 4, 0); addTransition(2, 3, 0); addTransition(1, 2, 0); addTransition(0, 1, 0)\n";
        String number = "Returns the smallest number of transitions, one after the other, that lead from a state to another one, whatever their conditions and exits are.";
        Sentences.test(number, chain, "steps(0, 9) = 9; steps(0, 8) = 8; steps(1, 9) = 8; steps(8, 9) = 1; addTransition(0, 7, 5); steps(0, 9) = 3; steps(0, 6) = 6; addTransition(0, 9, 5); steps(0, 9) = 1\n");
        Sentences.test(number, chain, "addParameter(2); addCondition(8, 0, 2, 1); setTiming(0, 300, 0); setTiming(8, 300, 0); steps(0, 9) = 9; steps(0, 1) = 1; blocked(8) = 2\n");
        Sentences.test(number, ten, "addTransition(ANY, 5, 9); steps(0, 5) = 1; steps(9, 5) = 1; steps(5, 0) = -1; addTransition(5, 6, 0); steps(0, 6) = 2; steps(5, 6) = 1; addTransition(0, 6, 0); steps(0, 6) = 1; steps(1, 6) = 2; steps(6, 5) = 1\n");
        Sentences.test("- `from`: a state", chain, "steps(0, 9) = 9; steps(9, 9) = 0\n", Sentences.index("steps(-1, 9)", "steps(10, 9)"));
        Sentences.test("- `to`: a state", chain, "steps(0, 0) = 0; steps(0, 9) = 9\n", Sentences.index("steps(0, -1)", "steps(0, 10)"));
        Sentences.test("Returns the number, 0 if both are the same; NONE if there is no such sequence.", chain, "steps(0, 0) = 0; steps(9, 9) = 0; steps(9, 8) = -1; steps(9, 0) = -1; steps(1, 0) = -1; addTransition(9, 9, 0); addTransition(ANY, 9, 0); steps(9, 9) = 0; steps(9, 8) = -1; addTransition(9, 0, 0); steps(9, 8) = 9; steps(1, 0) = 2; steps(0, 0) = 0\n");
        Sentences.test("Throws `IndexOutOfBoundsException` if there is no such state (either one)", Sentences.index("steps(0, 0)"), ONE, "steps(0, 0) = 0\n", Sentences.index("steps(0, 1)", "steps(1, 0)", "steps(1, 1)", "steps(0, -1)", "steps(-1, 0)", "steps(ANY, ANY)", "steps(MIN, 0)", "steps(MAX, 0)", "steps(0, MIN)", "steps(0, MAX)"), Sentences.times(9, "addState(0, 100, true, 0)"), "steps(9, 0) = -1\n", Sentences.index("steps(10, 0)", "steps(0, 10)"));
    }

    private static void keep() {
        Sentences.in("Promise 40: keep");
        String all = "Keeps an image of the running machine: the values of the parameters, the tracks and the present transition with a frozen pose, the events that are kept, and the numbers of ticks and of events fired.";
        Sentences.test(all, FROZEN, "set(0, 1); set(1, 0); set(2, -100); set(3, 1); tick(50); reset(); tick(20); restore(1) = 6; value(0) = 0; value(1) = 1; value(2) = 30; value(3) = 0; state() = 1; target() = 2; transition() = 1; elapsed() = 3; isFrozen() = true; progress(false) = 300000; progress(true) = 300000\n",
            "fired() = 1; count(6) = 1; event(0, 0) = 1; event(0, 1) = 5; count(5) = 6\n", Sentences.pose(0, 3, 490000, 1, 3, 210000, 2, 3, 300000));
        // One interruption and the freshness of a track are known to an image, too.
        Sentences.test(all, FROZEN, "tick(1); transition() = 2; restore(1); blocked(2) = 0; tick(1); transition() = 2; blocked(0) = 1\n");
        Sentences.test(all, "addClip(10); addEvent(0, 0, 7); addClipNode(0); addState(0, 100, true, 0); keep(0) = 0; tick(1) = 1; keep(1) = 1; tick(9); restore(0) = 0; tick(1) = 1; restore(1) = 1; tick(8) = 0; tick(1) = 1\n");
        Sentences.test(all, "addClip(1); addEvent(0, 0, 1); addClipNode(0); addState(0, 100, true, 0); tick(35); keep(0) = 35; tick(31); event(0, 0) = 37; restore(0); fired() = 35; count(6) = 30; event(0, 0) = 6; event(29, 0) = 35\n", Sentences.index("event(30, 0)"), "tick(1); event(0, 0) = 7; event(29, 0) = 36\n");
        Sentences.test("- `slot`: 0 or 1", ONE, "keep(0) = 0; tick(1); keep(1) = 1; tick(1); restore(0) = 0; restore(1) = 1\n", Sentences.argument("keep(-1)", "keep(2)"));
        Sentences.test("Returns the number of ticks.", ONE, "keep(0) = 0; tick(100); keep(0) = 100; keep(1) = 100; reset(); keep(0) = 0; restore(1) = 100; keep(0) = 100\n");
        Sentences.test("Throws `IllegalArgumentException` if slot is out of range", Sentences.argument("keep(-1)", "keep(2)"), ONE, Sentences.argument("keep(-1)", "keep(2)", "keep(MIN)", "keep(MAX)"), "keep(0) = 0; keep(1) = 0\n");
        Sentences.test("Throws `IllegalStateException` if there are no states", Sentences.state("keep(0)", "keep(1)"), EdgesOfParts.CLIP, Sentences.state("keep(0)", "restore(0)"), "addState(0, 100, true, 0); keep(0) = 0\n");
    }

    private static void restore() {
        Sentences.in("Promise 41: restore");
        Sentences.test("Restores an image, which stays in its slot.", ONE, "tick(3); keep(0) = 3; tick(4); restore(0) = 3; progress(false) = 300000; tick(5); restore(0) = 3; progress(false) = 300000; restore(0) = 3; keep(1) = 3; tick(1); restore(1) = 3; tick(2); restore(0) = 3\n");
        String added = "Parameters that were added after it was kept become 0; nothing else that was added since then is removed.";
        Sentences.test(added, FROZEN, "addParameter(0) = 4; addParameter(1) = 5; set(4, -7); set(5, 1); addClip(5) = 3; addClipNode(3) = 4; addEvent(3, 0, 1) = 1; addChild(3, 1, 5) = 2; addState(4, 100, true, 0) = 3; addTransition(0, 3, 5) = 4; setTiming(4, 7, 7); setInterruption(4, 3, true); addCondition(4, 5, 2, 0) = 1; setThreshold(9); type(66)\n",
            "restore(0) = 2; value(4) = 0; value(5) = 0; value(2) = 0; count(0) = 6; count(1) = 4; count(2) = 5; count(3) = 4; count(4) = 5; count(7) = 3; setThreshold(1) = 9; stateLength(3) = 5; setInterruption(4, 0, false) = 3; setTiming(4, NONE, 0) = 7; addCondition(4, 5, 2, 0) = 2; addEvent(3, 0, 1) = 2; addChild(3, 1, 6) = 3\n");
        Sentences.test(added, "addParameter(0) = 0\n", ONE, "set(0, 9); keep(0) = 0\n", Sentences.times(7, "addParameter(1)"), "set(0, 1); set(1, 1); set(7, 1); restore(0) = 0; value(0) = 9; value(1) = 0; value(7) = 0; count(0) = 8; set(7, 1); keep(1) = 0; set(7, 0); restore(1) = 0; value(7) = 1\n");
        Sentences.test("- `slot`: 0 or 1", ONE, "keep(0); tick(1); keep(1); restore(0) = 0; restore(1) = 1\n", Sentences.argument("restore(-1)", "restore(2)"));
        Sentences.test("Returns the number of ticks then.", ONE, "keep(0); tick(100); keep(1) = 100; tick(1); restore(0) = 0; count(5) = 0; restore(1) = 100; count(5) = 100; tick(1); count(5) = 101\n");
        Sentences.test("Throws `IllegalArgumentException` if slot is out of range", Sentences.argument("restore(-1)", "restore(2)"), ONE, "keep(0); keep(1)\n", Sentences.argument("restore(-1)", "restore(2)", "restore(MIN)", "restore(MAX)"));
        Sentences.test("Throws `IllegalStateException` if nothing is kept in the slot", Sentences.state("restore(0)", "restore(1)"), ONE, Sentences.state("restore(0)", "restore(1)"), "keep(1) = 0\n", Sentences.state("restore(0)"), "restore(1) = 0; reset()\n", Sentences.state("restore(0)"), "keep(0); restore(0) = 0\n");
    }

    private static void count() {
        Sentences.in("Promise 42: count");
        Sentences.plain("Returns a number.", "Returns the number.");
        String what = "- `what`: 0 parameters, 1 clips, 2 nodes, 3 states, 4 transitions, 5 ticks, 6 events that are kept, 7 the length of the text";
        Sentences.test(what, "count(0) = 0; count(1) = 0; count(2) = 0; count(3) = 0; count(4) = 0; count(5) = 0; count(6) = 0; count(7) = 0\n", FROZEN, "count(0) = 4; count(1) = 3; count(2) = 4; count(3) = 3; count(4) = 4; count(5) = 6; count(6) = 1; count(7) = 2\n", Sentences.argument("count(-1)", "count(8)"));
        Sentences.test(what, FULL, "count(0) = 8; count(1) = 12; count(2) = 20; count(3) = 10; count(4) = 24; count(5) = 0; count(6) = 0; count(7) = 150; tick(100); tick(100); count(5) = 200; count(6) = 30\n");
        Sentences.test("Throws `IllegalArgumentException` if what is out of range", Sentences.argument("count(-1)", "count(8)", "count(MIN)", "count(MAX)"), ONE, Sentences.argument("count(-1)", "count(8)"), "count(0) = 0; count(7) = 0\n");
        Sentences.in("Not promised");
        Sentences.plain("How the state is held inside the object is free", "Use of one object from several threads", "Nothing is promised beyond the answers");
    }
}
