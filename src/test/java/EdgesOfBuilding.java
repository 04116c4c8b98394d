/** The boundaries that the promises 1 to 19 name: what is built, and the text. */
final class EdgesOfBuilding {
    private static final String BASE = BuildTest.BASE;
    private static final String ONE = EdgesOfParts.ONE;

    private EdgesOfBuilding() {
    }

    static void test() {
        newObject();
        addParameter();
        setAndValue();
        addClip();
        addEvent();
        addClipNode();
        addLine();
        addChild();
        addState();
        addTransition();
        setTiming();
        setInterruption();
        addCondition();
        setThreshold();
        typing();
        faultAndLoad();
    }

    private static void newObject() {
        Sentences.in("Promise 1: A new object");
        Sentences.test("Creates a controller without parameters, clips, nodes, states and transitions, with an empty text.",
            "count(0) = 0; count(1) = 0; count(2) = 0; count(3) = 0; count(4) = 0; count(5) = 0; count(6) = 0; count(7) = 0; target() = -1; transition() = -1; elapsed() = -1; isFrozen() = false; poseSize() = 0; fired() = 0; fault() = 0; clearText() = 0; reset() = 0\n",
            Sentences.index("value(0)", "set(0, 0)", "addEvent(0, 0, 0)", "addClipNode(0)", "addLine(0)", "addChild(0, 0, 0)", "addState(0, 100, true, 0)", "addTransition(ANY, 0, 0)", "setTiming(0, NONE, 0)", "setInterruption(0, 0, false)", "addCondition(0, 0, 0, 0)",
                "stateLength(0)", "partWeight(0, 0)", "blocked(0)", "poseClip(0)", "poseTime(0)", "poseWeight(0)", "event(0, 0)", "ticksTo(0)", "steps(0, 0)"),
            Sentences.state("load()", "tick(1)", "state()", "progress(false)", "progress(true)", "foretell(1)", "keep(0)", "keep(1)", "restore(0)", "restore(1)"));
    }

    private static void addParameter() {
        Sentences.in("Promise 2: addParameter");
        Sentences.plain("Adds a parameter.");
        Sentences.test("- `kind`: 0 number, 1 switch, 2 trigger", ONE, "addParameter(0) = 0; addParameter(1) = 1; addParameter(2) = 2\n", Sentences.argument("addParameter(-1)", "addParameter(3)"),
            "# a number can be negative, a switch and a trigger cannot; a trigger is used up\n", "set(0, -1) = 0\n", Sentences.argument("set(1, -1)", "set(2, -1)"),
            "addTransition(0, 0, 5); addCondition(0, 1, 2, 1); addCondition(0, 2, 2, 1); set(1, 1); set(2, 1); tick(1); value(0) = -1; value(1) = 1; value(2) = 0\n");
        Sentences.test("Returns the number of the parameter.", "addParameter(2) = 0; addParameter(2) = 1\n", Sentences.argument("addParameter(3)"), "addParameter(0) = 2; addParameter(1) = 3; addParameter(0) = 4; addParameter(0) = 5; addParameter(0) = 6; addParameter(0) = 7\n");
        Sentences.test("Throws `IllegalArgumentException` if kind is out of range", Sentences.argument("addParameter(-1)", "addParameter(3)", "addParameter(MIN)", "addParameter(MAX)"), "addParameter(0) = 0; addParameter(2) = 1\n", Sentences.times(6, "addParameter(1)"), Sentences.argument("addParameter(-1)", "addParameter(3)"), "count(0) = 8\n");
        Sentences.test("Throws `IllegalStateException` if there are 8 parameters", Sentences.times(7, "addParameter(1)"), "addParameter(0) = 7\n", Sentences.state("addParameter(0)", "addParameter(1)", "addParameter(2)"), "count(0) = 8; reset()\n", Sentences.state("addParameter(0)"));
    }

    private static void setAndValue() {
        String three = "addParameter(0) = 0; addParameter(1) = 1; addParameter(2) = 2\n";
        Sentences.in("Promise 3: set");
        Sentences.plain("Sets the value of a parameter.");
        Sentences.test("- `parameter`: the parameter", three, "set(0, 7) = 0; set(2, 1) = 0; value(0) = 7; value(1) = 0; value(2) = 1\n", Sentences.index("set(-1, 0)", "set(3, 0)"));
        Sentences.test("- `value`: -100 to 100 for a number, 0 or 1 otherwise", three, "set(0, -100) = 0; set(0, 100) = -100; set(1, 1) = 0; set(1, 0) = 1; set(2, 1) = 0; set(2, 0) = 1\n",
            Sentences.argument("set(0, -101)", "set(0, 101)", "set(1, -1)", "set(1, 2)", "set(2, -1)", "set(2, 2)"), "value(0) = 100; value(1) = 0; value(2) = 0\n");
        Sentences.test("Returns the previous value.", three, "set(0, -100) = 0; set(0, -100) = -100; set(0, 0) = -100; set(0, 100) = 0; set(1, 1) = 0; set(1, 1) = 1; reset(); set(0, 5) = 0; set(1, 0) = 0\n");
        Sentences.test("Throws `IndexOutOfBoundsException` if there is no such parameter", Sentences.index("set(0, 0)"), three, "set(2, 0) = 0\n", Sentences.index("set(3, 0)", "set(-1, 0)", "set(3, 101)", "set(MIN, MIN)", "set(MAX, MAX)"), Sentences.times(5, "addParameter(0)"), "set(7, 1) = 0\n", Sentences.index("set(8, 0)"));
        Sentences.test("Throws `IllegalArgumentException` if value is out of range", three, Sentences.argument("set(0, 101)", "set(0, -101)", "set(0, MIN)", "set(0, MAX)", "set(1, 2)", "set(1, -1)", "set(1, MAX)", "set(2, 2)", "set(2, -1)", "set(2, MIN)", "set(1, 100)"), "set(0, 100) = 0; set(1, 1) = 0; set(2, 1) = 0\n");
        Sentences.in("Promise 4: value");
        Sentences.plain("Returns the value of a parameter.", "Returns the value.");
        Sentences.test("- `parameter`: the parameter", three, "set(0, -100); set(2, 1); value(0) = -100; value(1) = 0; value(2) = 1\n", Sentences.index("value(-1)", "value(3)"));
        Sentences.test("Throws `IndexOutOfBoundsException` if there is no such parameter", Sentences.index("value(0)"), three, "value(0) = 0; value(2) = 0\n", Sentences.index("value(3)", "value(-1)", "value(MIN)", "value(MAX)"), Sentences.times(5, "addParameter(0)"), "value(7) = 0\n", Sentences.index("value(8)"));
    }

    private static void addClip() {
        Sentences.in("Promise 5: addClip");
        Sentences.test("Adds a clip without events.", "addClip(1) = 0; count(1) = 1; addEvent(0, 0, 5) = 1; addClip(1) = 1; addEvent(1, 0, 5) = 1; addClip(1) = 2; addClipNode(2); addState(0, 400, true, 0); setThreshold(0); tick(100) = 0\n");
        Sentences.test("- `length`: 1 to 500", "addClip(1) = 0; addClip(500) = 1\n", Sentences.argument("addClip(0)", "addClip(501)"), "addEvent(0, 0, 0) = 1; addEvent(1, 499, 0) = 1\n", Sentences.argument("addEvent(0, 1, 0)", "addEvent(1, 500, 0)"));
        Sentences.test("Returns the number of the clip.", "addClip(5) = 0\n", Sentences.argument("addClip(0)"), "addClip(6) = 1; addClip(5) = 2\n", Sentences.times(8, "addClip(9)"), "addClip(5) = 11\n");
        Sentences.test("Throws `IllegalArgumentException` if length is out of range", Sentences.argument("addClip(0)", "addClip(-1)", "addClip(501)", "addClip(MIN)", "addClip(MAX)"), "addClip(1) = 0; addClip(500) = 1\n", Sentences.times(10, "addClip(9)"), Sentences.argument("addClip(0)", "addClip(501)"));
        Sentences.test("Throws `IllegalStateException` if there are 12 clips", Sentences.times(11, "addClip(9)"), "addClip(8) = 11\n", Sentences.state("addClip(1)", "addClip(500)"), "count(1) = 12\n");
    }

    private static void addEvent() {
        Sentences.in("Promise 6: addEvent");
        Sentences.plain("Adds an event to a clip.");
        String two = "addClip(10) = 0; addClip(4) = 1\n";
        Sentences.test("- `clip`: the clip", two, "addEvent(0, 0, 5) = 1; addEvent(1, 0, 6) = 1\n", Sentences.index("addEvent(-1, 0, 5)", "addEvent(2, 0, 5)"), "addClipNode(1); addState(0, 100, true, 0); tick(1) = 1; event(0, 1) = 6; event(0, 2) = 1\n");
        Sentences.test("- `time`: 0 to the length of the clip - 1", two, "addEvent(0, 0, 5) = 1; addEvent(0, 9, 5) = 2; addEvent(1, 3, 5) = 1\n", Sentences.argument("addEvent(0, -1, 5)", "addEvent(0, 10, 5)", "addEvent(1, 4, 5)", "addEvent(1, 9, 5)"));
        Sentences.test("- `id`: 0 to 99", two, "addEvent(0, 0, 0) = 1; addEvent(0, 0, 99) = 2\n", Sentences.argument("addEvent(0, 0, -1)", "addEvent(0, 0, 100)"));
        Sentences.test("Returns how many events the clip has then.", two, "addEvent(0, 0, 5) = 1; addEvent(1, 0, 5) = 1; addEvent(0, 0, 5) = 2; addEvent(0, 9, 5) = 3; addEvent(0, 4, 5) = 4; addEvent(0, 4, 5) = 5; addEvent(1, 0, 5) = 2\n");
        Sentences.test("Throws `IndexOutOfBoundsException` if there is no such clip", Sentences.index("addEvent(0, 0, 0)"), two, "addEvent(1, 0, 0) = 1\n", Sentences.index("addEvent(2, 0, 0)", "addEvent(-1, 0, 0)", "addEvent(2, -1, 100)", "addEvent(MIN, 0, 0)", "addEvent(MAX, 0, 0)"), Sentences.times(10, "addClip(1)"), "addEvent(11, 0, 0) = 1\n", Sentences.index("addEvent(12, 0, 0)"));
        String full = two + Sentences.times(4, "addEvent(0, 0, 5)");
        Sentences.test("Throws `IllegalArgumentException` if time or id is out of range", full, Sentences.argument("addEvent(0, 10, 0)", "addEvent(0, -1, 0)", "addEvent(0, 0, 100)", "addEvent(0, 0, -1)", "addEvent(0, MIN, 0)", "addEvent(0, MAX, 0)", "addEvent(0, 0, MIN)", "addEvent(0, 0, MAX)"),
            "addEvent(0, 9, 99) = 5\n", Sentences.argument("addEvent(0, 10, 0)", "addEvent(0, 0, 100)", "addEvent(0, -1, -1)"));
        Sentences.test("Throws `IllegalStateException` if the clip has 5 events", full, "addEvent(0, 0, 5) = 5\n", Sentences.state("addEvent(0, 0, 5)", "addEvent(0, 9, 0)"), "addEvent(1, 0, 5) = 1\n", Sentences.index("addEvent(2, 0, 5)"));
    }

    private static void addClipNode() {
        Sentences.in("Promise 7: addClipNode");
        Sentences.plain("Adds a clip node.");
        String two = "addClip(10) = 0; addClip(4) = 1\n";
        Sentences.test("- `clip`: the clip", two, "addClipNode(1) = 0; addClipNode(0) = 1; addState(0, 100, true, 0); addState(1, 100, true, 0); stateLength(0) = 4; stateLength(1) = 10\n", Sentences.index("addClipNode(-1)", "addClipNode(2)"));
        Sentences.test("Returns the number of the node.", two, "addClipNode(1) = 0; addClipNode(1) = 1\n", Sentences.index("addClipNode(2)"), "addParameter(0); addLine(0) = 2; addClipNode(0) = 3\n", Sentences.times(15, "addClipNode(0)"), "addClipNode(0) = 19\n");
        Sentences.test("Throws `IndexOutOfBoundsException` if there is no such clip", Sentences.index("addClipNode(0)"), two, "addClipNode(1) = 0\n", Sentences.index("addClipNode(2)", "addClipNode(-1)", "addClipNode(MIN)", "addClipNode(MAX)"), Sentences.times(10, "addClip(1)"), "addClipNode(11) = 1\n", Sentences.index("addClipNode(12)"), Sentences.times(18, "addClipNode(0)"), Sentences.index("addClipNode(12)", "addClipNode(-1)"));
        Sentences.test("Throws `IllegalStateException` if there are 20 nodes", two, Sentences.times(19, "addClipNode(0)"), "addClipNode(0) = 19\n", Sentences.state("addClipNode(0)", "addClipNode(1)"), "count(2) = 20\n");
    }

    private static void addLine() {
        Sentences.in("Promise 8: addLine");
        String some = "addParameter(1) = 0; addParameter(0) = 1; addParameter(2) = 2; addParameter(0) = 3; addClip(10); addClip(10)\n";
        Sentences.test("Adds a line without children.", some, "addClipNode(0) = 0; addLine(1) = 1; count(2) = 2\n", Sentences.state("addState(1, 100, true, 0)"), "addChild(1, 0, 0) = 1; addState(1, 100, true, 0) = 0; addLine(1) = 2\n", Sentences.state("addState(2, 100, true, 0)"));
        Sentences.test("- `parameter`: the parameter", some, "addClipNode(0) = 0; addClipNode(1) = 1; addLine(3) = 2; addChild(2, 0, 0); addChild(2, 1, 1); addState(2, 100, true, 0); set(1, 1); partWeight(0, 1) = 0; set(3, 1); partWeight(0, 1) = 1000000\n", Sentences.index("addLine(-1)", "addLine(4)"));
        Sentences.test("Returns the number of the node.", some, "addLine(1) = 0\n", Sentences.state("addLine(0)"), "addLine(1) = 1; addClipNode(0) = 2; addLine(3) = 3\n", Sentences.times(15, "addLine(1)"), "addLine(1) = 19\n");
        Sentences.test("Throws `IndexOutOfBoundsException` if there is no such parameter", Sentences.index("addLine(0)"), some, "addLine(3) = 0\n", Sentences.index("addLine(4)", "addLine(-1)", "addLine(MIN)", "addLine(MAX)"), Sentences.times(4, "addParameter(0)"), "addLine(7) = 1\n", Sentences.index("addLine(8)"), Sentences.times(18, "addLine(1)"), Sentences.index("addLine(8)", "addLine(-1)"));
        Sentences.test("Throws `IllegalStateException` if the parameter is not a number", some, Sentences.state("addLine(0)", "addLine(2)"), "addLine(1) = 0; addLine(3) = 1\n");
        Sentences.test("or there are 20 nodes", some, Sentences.times(19, "addLine(1)"), "addLine(1) = 19\n", Sentences.state("addLine(1)", "addLine(3)", "addLine(0)"), "count(2) = 20\n");
    }

    private static void addChild() {
        Sentences.in("Promise 9: addChild");
        Sentences.plain("Adds a child to a line.");
        // Two clip nodes, and the lines 2 to 5.
        String lines = "addParameter(0); addClip(10); addClip(10); addClipNode(0) = 0; addClipNode(1) = 1; addLine(0) = 2; addLine(0) = 3; addLine(0) = 4; addLine(0) = 5\n";
        Sentences.test("- `line`: the line", lines, "addChild(2, 0, 0) = 1; addChild(5, 0, 0) = 1; addChild(5, 1, 5) = 2; addState(5, 100, true, 0); addState(2, 100, true, 0); set(0, 5); partWeight(0, 1) = 1000000; partWeight(1, 1) = 0\n", Sentences.index("addChild(-1, 0, 0)", "addChild(6, 0, 0)"));
        Sentences.test("- `node`: the child", lines, "addChild(2, 1, 0) = 1; addChild(5, 2, 0) = 1; addState(5, 100, true, 0); partWeight(0, 1) = 1000000\n", Sentences.index("addChild(5, -1, 0)", "addChild(5, 6, 0)"));
        Sentences.test("- `position`: -100 to 100", lines, "addChild(2, 0, -100) = 1; addChild(2, 0, 100) = 2\n", Sentences.argument("addChild(2, 0, -101)", "addChild(2, 0, 101)"));
        Sentences.test("Returns how many children the line has then.", lines, "addChild(2, 0, 5) = 1; addChild(3, 0, 5) = 1; addChild(2, 0, 4) = 2; addChild(2, 1, 6) = 3; addChild(2, 1, -6) = 4; addChild(2, 1, 0) = 5; addChild(3, 2, 4) = 2\n");
        Sentences.test("Throws `IndexOutOfBoundsException` if there is no such node (either one)", lines, Sentences.index("addChild(6, 0, 0)", "addChild(-1, 0, 0)", "addChild(2, 6, 0)", "addChild(2, -1, 0)", "addChild(0, -1, 101)", "addChild(0, 6, 0)", "addChild(6, 6, 0)", "addChild(MIN, 0, 0)", "addChild(MAX, 0, 0)", "addChild(2, MIN, 0)", "addChild(2, MAX, 0)"),
            "addChild(5, 0, 0) = 1; addChild(2, 0, 0) = 1; addChild(2, 0, 1); addChild(2, 0, 2); addChild(2, 0, 3); addChild(2, 0, 4) = 5\n", Sentences.index("addChild(2, 6, 0)", "addChild(2, -1, 5)"));
        Sentences.test("Throws `IllegalArgumentException` if line is no line", lines, Sentences.argument("addChild(0, 0, 0)", "addChild(1, 0, 0)"), "addChild(2, 0, 0) = 1\n");
        Sentences.test("node is not lower than line", lines, Sentences.argument("addChild(2, 2, 0)", "addChild(2, 3, 0)", "addChild(4, 5, 0)"), "addChild(3, 1, 0) = 1; addChild(4, 3, 0) = 1\n", Sentences.argument("addChild(3, 3, 0)", "addChild(3, 4, 1)"));
        Sentences.test("or position is out of range", lines, Sentences.argument("addChild(2, 0, 101)", "addChild(2, 0, -101)", "addChild(2, 0, MIN)", "addChild(2, 0, MAX)", "addChild(3, 2, 101)"), "addChild(2, 0, 100) = 1; addChild(2, 0, -100) = 2; addChild(2, 0, 0) = 3; addChild(2, 0, 1) = 4; addChild(2, 0, 2) = 5\n", Sentences.argument("addChild(2, 0, 101)", "addChild(2, 0, -101)", "addChild(2, 2, 100)"));
        Sentences.test("Throws `IllegalStateException` if the line has 5 children", lines, "addChild(2, 0, 0) = 1; addChild(2, 0, 1) = 2; addChild(2, 0, 2) = 3; addChild(2, 0, 3) = 4; addChild(2, 0, 4) = 5\n", Sentences.state("addChild(2, 0, 5)", "addChild(2, 1, -100)", "addChild(2, 0, 4)"), "addChild(3, 2, 5) = 1\n");
        Sentences.test("or one at this position", lines, "addChild(2, 0, 100) = 1; addChild(2, 0, -100) = 2; addChild(2, 0, 0) = 3\n", Sentences.state("addChild(2, 0, 100)", "addChild(2, 1, -100)", "addChild(2, 1, 0)"), "addChild(2, 1, 99) = 4; addChild(2, 1, -99) = 5\n");
        Sentences.test("node is not complete", lines, Sentences.state("addChild(3, 2, 0)", "addChild(5, 4, 0)"), "addChild(2, 0, 0) = 1; addChild(3, 2, 0) = 1; addChild(5, 3, 0) = 1\n", Sentences.state("addChild(5, 4, 1)"));
        Sentences.test("or a node would have a depth above 4", lines, "addChild(2, 0, 0); addChild(3, 2, 0); addChild(4, 3, 0) = 1\n", Sentences.state("addChild(5, 4, 0)"), "addChild(5, 3, 0) = 1; addChild(5, 2, 1) = 2; addChild(5, 1, 2) = 3\n");
        // Not the line itself, but one above it: 5 has the depth 4, and the child 2 would make it 5.
        Sentences.test("or a node would have a depth above 4", lines, "addChild(2, 0, 0); addChild(3, 1, 0); addChild(4, 3, 0); addChild(5, 4, 0) = 1\n", Sentences.state("addChild(3, 2, 1)"), "addChild(4, 2, 1) = 2; addChild(3, 0, 1) = 2\n");
    }

    private static void addState() {
        Sentences.in("Promise 10: addState");
        Sentences.plain("Adds a state.");
        String nodes = "addParameter(0); addClip(10); addClip(4); addClipNode(0) = 0; addClipNode(1) = 1; addLine(0) = 2\n";
        Sentences.test("- `motion`: the number of a node", nodes, "addState(1, 100, true, 0) = 0; addState(0, 100, true, 0) = 1; stateLength(0) = 4; stateLength(1) = 10\n", Sentences.index("addState(-1, 100, true, 0)", "addState(3, 100, true, 0)"));
        Sentences.test("- `speed`: 1 to 400", nodes, "addState(0, 400, true, 0) = 0; addState(0, 1, true, 0) = 1; tick(1); progress(false) = 400000; addTransition(0, 1, 0); tick(1); progress(false) = 1000\n", Sentences.argument("addState(0, 0, true, 0)", "addState(0, 401, true, 0)"));
        Sentences.test("- `loops`: whether it loops", nodes, "addState(0, 100, true, 0) = 0; addState(0, 100, false, 0) = 1; addTransition(0, 1, 0); setTiming(0, 150, 0); tick(15); progress(false) = 1500000; tick(15); state() = 1; progress(false) = 1000000\n");
        Sentences.test("- `group`: 0 to 3", nodes, "addState(0, 100, true, 0) = 0; addState(0, 100, true, 3) = 1\n", Sentences.argument("addState(0, 100, true, -1)", "addState(0, 100, true, 4)"));
        Sentences.test("Returns the number of the state.", nodes, "addState(0, 100, true, 0) = 0\n", Sentences.argument("addState(0, 0, true, 0)"), "addState(0, 100, true, 0) = 1; addState(0, 100, true, 0) = 2\n", Sentences.times(6, "addState(0, 100, true, 0)"), "addState(0, 100, true, 0) = 9\n");
        Sentences.test("Throws `IndexOutOfBoundsException` if there is no such node", Sentences.index("addState(0, 100, true, 0)"), nodes, Sentences.index("addState(3, 100, true, 0)", "addState(-1, 100, true, 0)", "addState(3, 0, true, 4)", "addState(MIN, 100, true, 0)", "addState(MAX, 100, true, 0)"), Sentences.times(10, "addState(0, 100, true, 0)"), Sentences.index("addState(3, 100, true, 0)", "addState(-1, 100, true, 0)"));
        Sentences.test("Throws `IllegalArgumentException` if speed or group is out of range", nodes, Sentences.argument("addState(0, 0, true, 0)", "addState(0, -1, true, 0)", "addState(0, 401, true, 0)", "addState(0, MIN, true, 0)", "addState(0, MAX, true, 0)", "addState(0, 100, true, -1)", "addState(0, 100, true, 4)", "addState(0, 100, true, MIN)", "addState(0, 100, true, MAX)", "addState(2, 0, true, 0)", "addState(2, 100, true, 4)"),
            "addState(0, 1, true, 0) = 0; addState(0, 400, false, 3) = 1\n", Sentences.times(8, "addState(0, 100, true, 0)"), Sentences.argument("addState(0, 0, true, 0)", "addState(0, 100, true, 4)"));
        Sentences.test("Throws `IllegalStateException` if the node is not complete", nodes, Sentences.state("addState(2, 100, true, 0)"), "addChild(2, 0, 0) = 1; addState(2, 100, true, 0) = 0\n");
        Sentences.test("or there are 10 states", nodes, Sentences.times(9, "addState(0, 100, true, 0)"), "addState(0, 100, true, 0) = 9\n", Sentences.state("addState(0, 100, true, 0)", "addState(1, 1, false, 3)", "addState(2, 100, true, 0)"), "count(3) = 10\n");
    }

    private static void addTransition() {
        Sentences.in("Promise 11: addTransition");
        Sentences.plain("Adds a transition.");
        Sentences.test("- `from`: the state from which it leads, or ANY (-1)", BASE, "addTransition(0, 1, 5) = 0; addTransition(1, 0, 5) = 1; addTransition(ANY, 1, 5) = 2; blocked(0) = 0; blocked(1) = 1; blocked(2) = 0\n", Sentences.index("addTransition(-2, 0, 5)", "addTransition(2, 0, 5)"));
        Sentences.test("- `to`: the state to which it leads", BASE, "addTransition(0, 1, 5) = 0; addTransition(0, 0, 5) = 1; tick(1); target() = 1; reset(); setTiming(0, 300, 0); tick(1); target() = 0\n", Sentences.index("addTransition(0, ANY, 5)", "addTransition(0, 2, 5)"));
        Sentences.test("- `duration`: 0 to 60", BASE, "addTransition(0, 1, 0) = 0; addTransition(1, 0, 60) = 1\n", Sentences.argument("addTransition(0, 1, -1)", "addTransition(0, 1, 61)"), "tick(1); transition() = 1; elapsed() = 1; tick(58); elapsed() = 59; tick(1); state() = 0; transition() = -1\n");
        Sentences.test("Returns the number of the transition.", BASE, "addTransition(0, 1, 0) = 0\n", Sentences.argument("addTransition(0, 1, 61)"), "addTransition(0, 1, 0) = 1; addTransition(ANY, 1, 0) = 2\n", Sentences.text("A>B/5", -1), "load(); addTransition(0, 1, 0) = 4\n", Sentences.times(18, "addTransition(0, 1, 0)"), "addTransition(1, 0, 5) = 23\n");
        Sentences.test("Throws `IndexOutOfBoundsException` if there is no such state (either one; -1 is allowed for from)", Sentences.index("addTransition(ANY, 0, 5)", "addTransition(0, 0, 5)"), BASE, Sentences.index("addTransition(2, 0, 5)", "addTransition(-2, 0, 5)", "addTransition(0, 2, 5)", "addTransition(0, -1, 5)", "addTransition(ANY, -1, 5)", "addTransition(2, 2, 61)", "addTransition(MIN, 0, 5)", "addTransition(MAX, 0, 5)", "addTransition(0, MIN, 5)", "addTransition(0, MAX, 5)"),
            "addTransition(1, 1, 5) = 0; addTransition(ANY, 1, 5) = 1; addTransition(ANY, 0, 5) = 2\n", Sentences.times(21, "addTransition(0, 1, 0)"), Sentences.index("addTransition(2, 0, 5)", "addTransition(0, 2, 5)"));
        Sentences.test("Throws `IllegalArgumentException` if duration is out of range", BASE, Sentences.argument("addTransition(0, 1, -1)", "addTransition(0, 1, 61)", "addTransition(ANY, 1, 61)", "addTransition(0, 1, MIN)", "addTransition(0, 1, MAX)"), Sentences.times(24, "addTransition(0, 1, 60)"), Sentences.argument("addTransition(0, 1, 61)", "addTransition(0, 1, -1)"));
        Sentences.test("Throws `IllegalStateException` if there are 24 transitions", BASE, Sentences.times(23, "addTransition(0, 1, 60)"), "addTransition(0, 1, 0) = 23\n", Sentences.state("addTransition(0, 1, 0)", "addTransition(ANY, 1, 60)"), "count(4) = 24\n");
    }

    private static void setTiming() {
        Sentences.in("Promise 12: setTiming");
        Sentences.plain("Sets the exit and the start of a transition.");
        String two = BASE + "addTransition(0, 1, 5) = 0; addTransition(ANY, 1, 5) = 1\n";
        Sentences.test("- `transition`: the transition", two, "setTiming(0, 5, 0) = -1; setTiming(1, NONE, 50) = -1; blocked(0) = 2; blocked(1) = 0; tick(1); transition() = 1; progress(true) = 600000\n", Sentences.index("setTiming(-1, NONE, 0)", "setTiming(2, NONE, 0)"));
        Sentences.test("- `exit`: 0 to 300, or NONE (-1)", two, "setTiming(0, 0, 0) = -1; blocked(0) = 0; setTiming(0, 300, 0) = 0; blocked(0) = 2; setTiming(0, NONE, 0) = 300; blocked(0) = 0\n", Sentences.argument("setTiming(0, -2, 0)", "setTiming(0, 301, 0)"));
        Sentences.test("- `start`: 0 to 99", two, "addCondition(1, 1, 2, 1); setTiming(0, NONE, 99) = -1\n", Sentences.argument("setTiming(0, NONE, 100)", "setTiming(0, NONE, -1)"), "tick(1); progress(true) = 1090000; reset(); setTiming(0, NONE, 0) = -1; tick(1); progress(true) = 100000\n");
        Sentences.test("Returns the previous exit, or NONE.", two, "setTiming(0, 0, 9) = -1; setTiming(0, 300, 9) = 0\n", Sentences.argument("setTiming(0, 301, 9)", "setTiming(0, 7, 100)"), "setTiming(0, 300, 9) = 300; setTiming(0, NONE, 9) = 300; setTiming(0, 1, 9) = -1; setTiming(1, NONE, 9) = -1; setTiming(1, NONE, 9) = -1\n");
        Sentences.test("Throws `IndexOutOfBoundsException` if there is no such transition", BASE, Sentences.index("setTiming(0, 0, 0)"), "addTransition(0, 1, 5) = 0; setTiming(0, 0, 0) = -1\n", Sentences.index("setTiming(1, 0, 0)", "setTiming(-1, 0, 0)", "setTiming(1, 301, 100)", "setTiming(MIN, 0, 0)", "setTiming(MAX, 0, 0)"), Sentences.times(23, "addTransition(0, 1, 5)"), "setTiming(23, 0, 0) = -1\n", Sentences.index("setTiming(24, 0, 0)"));
        Sentences.test("Throws `IllegalArgumentException` if exit or start is out of range", two, Sentences.argument("setTiming(0, -2, 0)", "setTiming(0, 301, 0)", "setTiming(0, 0, -1)", "setTiming(0, 0, 100)", "setTiming(0, MIN, 0)", "setTiming(0, MAX, 0)", "setTiming(0, 0, MIN)", "setTiming(0, 0, MAX)", "setTiming(1, 301, 0)", "setTiming(1, 5, 100)", "setTiming(1, -2, 0)", "setTiming(1, NONE, 100)"), "setTiming(0, 300, 99) = -1; setTiming(0, 0, 0) = 300\n");
        Sentences.test("Throws `IllegalStateException` if exit is not NONE, and the transition leads from any state", two, Sentences.state("setTiming(1, 0, 0)", "setTiming(1, 300, 0)", "setTiming(1, 7, 7)"), "setTiming(1, NONE, 99) = -1; setTiming(0, 0, 0) = -1; tick(1); transition() = 1; progress(true) = 1090000\n");
    }

    private static void setInterruption() {
        Sentences.in("Promise 13: setInterruption");
        Sentences.plain("Sets the interruption mode and the mark of a transition.");
        String two = BASE + "addTransition(0, 1, 5) = 0; addTransition(0, 1, 5) = 1; addCondition(1, 1, 2, 1)\n";
        Sentences.test("- `transition`: the transition", two, "setInterruption(0, 3, true) = 0; setInterruption(1, 2, true) = 0; setInterruption(0, 3, true) = 3; setInterruption(1, 2, true) = 2\n", Sentences.index("setInterruption(-1, 0, true)", "setInterruption(2, 0, true)"));
        Sentences.test("- `mode`: 0 to 4", two, "setInterruption(0, 0, true) = 0; setInterruption(0, 4, true) = 0; setInterruption(0, 4, true) = 4\n", Sentences.argument("setInterruption(0, -1, true)", "setInterruption(0, 5, true)"));
        Sentences.test("- `ordered`: whether it is ordered", two, "setInterruption(0, 1, true); tick(1); blocked(1) = 1; setInterruption(0, 1, false); blocked(1) = 3\n");
        Sentences.test("Returns the previous mode.", two, "setInterruption(0, 1, false) = 0; setInterruption(0, 2, true) = 1; setInterruption(0, 3, true) = 2\n", Sentences.argument("setInterruption(0, 5, false)"), "setInterruption(0, 4, true) = 3; setInterruption(0, 0, true) = 4; setInterruption(0, 0, true) = 0\n");
        Sentences.test("Throws `IndexOutOfBoundsException` if there is no such transition", BASE, Sentences.index("setInterruption(0, 0, true)"), "addTransition(0, 1, 5) = 0; setInterruption(0, 0, true) = 0\n", Sentences.index("setInterruption(1, 0, true)", "setInterruption(-1, 0, true)", "setInterruption(1, 5, true)", "setInterruption(MIN, 0, true)", "setInterruption(MAX, 0, true)"), Sentences.times(23, "addTransition(0, 1, 5)"), "setInterruption(23, 0, true) = 0\n", Sentences.index("setInterruption(24, 0, true)"));
        Sentences.test("Throws `IllegalArgumentException` if mode is out of range", two, Sentences.argument("setInterruption(0, -1, true)", "setInterruption(0, 5, true)", "setInterruption(0, MIN, false)", "setInterruption(0, MAX, false)"), "setInterruption(0, 4, false) = 0; setInterruption(0, 0, false) = 4\n");
    }

    private static void addCondition() {
        Sentences.in("Promise 14: addCondition");
        Sentences.plain("Adds a condition to a transition.");
        String two = BASE + "addTransition(0, 1, 5) = 0; addTransition(0, 1, 5) = 1\n";
        Sentences.test("- `transition`: the transition", two, "addCondition(1, 1, 2, 1) = 1; blocked(0) = 0; blocked(1) = 3; addCondition(0, 1, 2, 1) = 1; blocked(0) = 3\n", Sentences.index("addCondition(-1, 0, 0, 0)", "addCondition(2, 0, 0, 0)"));
        Sentences.test("- `parameter`: the parameter", two, "addCondition(0, 0, 2, 1) = 1; addCondition(1, 2, 2, 1) = 1; set(0, 1); blocked(0) = 0; blocked(1) = 3; set(2, 1); blocked(1) = 0\n", Sentences.index("addCondition(0, -1, 0, 0)", "addCondition(0, 3, 0, 0)"));
        Sentences.test("- `operator`: 0 to 3 for a number; 2 for a switch or a trigger", two, "addCondition(0, 0, 0, 5) = 1; addCondition(0, 0, 3, 5) = 2; addCondition(1, 1, 2, 1) = 1; addCondition(1, 2, 2, 1) = 2\n",
            Sentences.argument("addCondition(0, 0, -1, 5)", "addCondition(0, 0, 4, 5)", "addCondition(0, 1, 1, 1)", "addCondition(0, 1, 3, 1)", "addCondition(0, 1, 0, 1)", "addCondition(0, 2, 1, 1)", "addCondition(0, 2, 3, 1)", "addCondition(0, 2, 0, 1)", "addCondition(0, 1, -1, 1)", "addCondition(0, 2, 4, 1)"), "addCondition(0, 0, 1, 5) = 3; addCondition(1, 0, 2, 5) = 3\n");
        Sentences.test("- `value`: -100 to 100 for a number; 0 or 1 for a switch; 1 for a trigger", two, "addCondition(0, 0, 0, -100) = 1; addCondition(0, 0, 0, 100) = 2; addCondition(1, 1, 2, 0) = 1; addCondition(1, 1, 2, 1) = 2; addCondition(1, 2, 2, 1) = 3\n",
            Sentences.argument("addCondition(0, 0, 0, -101)", "addCondition(0, 0, 0, 101)", "addCondition(0, 1, 2, -1)", "addCondition(0, 1, 2, 2)", "addCondition(0, 2, 2, 0)", "addCondition(0, 2, 2, 2)"), "addCondition(0, 0, 1, 0) = 3\n");
        Sentences.test("Returns how many conditions the transition has then.", two, "addCondition(0, 0, 2, 1) = 1; addCondition(1, 0, 2, 1) = 1; addCondition(0, 0, 2, 1) = 2\n", Sentences.argument("addCondition(0, 0, 4, 1)"), "addCondition(0, 1, 2, 1) = 3; addCondition(1, 2, 2, 1) = 2\n", Sentences.text("A>B/5?b?c", -1), "load(); addCondition(2, 0, 2, 1) = 3\n");
        Sentences.test("Throws `IndexOutOfBoundsException` if there is no such transition or parameter", BASE, Sentences.index("addCondition(0, 0, 0, 0)"), "addTransition(0, 1, 5) = 0\n", Sentences.index("addCondition(1, 0, 0, 0)", "addCondition(-1, 0, 0, 0)", "addCondition(0, 3, 2, 1)", "addCondition(0, -1, 2, 1)", "addCondition(1, 0, 4, 101)", "addCondition(0, 3, 4, 101)", "addCondition(MIN, 0, 0, 0)", "addCondition(MAX, 0, 0, 0)", "addCondition(0, MIN, 0, 0)", "addCondition(0, MAX, 0, 0)"),
            Sentences.times(3, "addCondition(0, 2, 2, 1)"), Sentences.index("addCondition(1, 0, 0, 0)", "addCondition(0, 3, 0, 0)"), Sentences.times(23, "addTransition(0, 1, 5)"), "addCondition(23, 0, 0, 0) = 1\n", Sentences.index("addCondition(24, 0, 0, 0)"));
        Sentences.test("Throws `IndexOutOfBoundsException` if there is no such transition or parameter", ONE, "addTransition(0, 0, 5)\n", Sentences.index("addCondition(0, 0, 2, 1)"));
        Sentences.test("Throws `IllegalArgumentException` if operator or value is out of range", two, Sentences.times(3, "addCondition(0, 2, 2, 1)"),
            Sentences.argument("addCondition(0, 0, 4, 0)", "addCondition(0, 0, -1, 0)", "addCondition(0, 0, 0, 101)", "addCondition(0, 0, 0, -101)", "addCondition(0, 0, MIN, 0)", "addCondition(0, 0, MAX, 0)", "addCondition(0, 0, 0, MIN)", "addCondition(0, 0, 0, MAX)", "addCondition(0, 1, 2, 2)", "addCondition(0, 1, 3, 1)", "addCondition(0, 2, 2, 0)", "addCondition(0, 2, 2, MAX)", "addCondition(0, 1, 2, MIN)"), Sentences.state("addCondition(0, 0, 3, 100)"));
        Sentences.test("Throws `IllegalStateException` if the transition has 3 conditions", two, "addCondition(0, 0, 2, 1) = 1; addCondition(0, 0, 2, 1) = 2; addCondition(0, 0, 2, 1) = 3\n", Sentences.state("addCondition(0, 0, 2, 1)", "addCondition(0, 1, 2, 0)", "addCondition(0, 2, 2, 1)"), "addCondition(1, 0, 2, 1) = 1\n", Sentences.text("A>B/5?b?c?~b", -1), "load()\n", Sentences.state("addCondition(2, 0, 2, 1)"));
    }

    private static void setThreshold() {
        Sentences.in("Promise 15: setThreshold");
        Sentences.plain("Sets the event threshold.");
        String half = "addParameter(0); addClip(10); addClip(10); addEvent(0, 0, 1); addEvent(1, 0, 2); addClipNode(0); addClipNode(1); addLine(0); addChild(2, 0, 0); addChild(2, 1, 100); addState(2, 100, true, 0)\n";
        Sentences.test("- `percent`: 0 to 100", half, "setThreshold(0) = 1; setThreshold(100) = 0\n", Sentences.argument("setThreshold(-1)", "setThreshold(101)"), "set(0, 1); tick(1) = 0; reset(); tick(1) = 1; reset(); setThreshold(0) = 100; set(0, 1); tick(1) = 2\n");
        Sentences.test("Returns the previous threshold.", half, "setThreshold(50) = 1; setThreshold(50) = 50\n", Sentences.argument("setThreshold(101)"), "reset(); setThreshold(0) = 50; keep(0); setThreshold(100) = 0; restore(0); setThreshold(1) = 100\n");
        Sentences.test("Throws `IllegalArgumentException` if percent is out of range", Sentences.argument("setThreshold(-1)", "setThreshold(101)", "setThreshold(MIN)", "setThreshold(MAX)"), "setThreshold(100) = 1; setThreshold(0) = 100\n", Sentences.argument("setThreshold(-1)"), "setThreshold(1) = 0\n");
    }

    private static void typing() {
        Sentences.in("Promise 16: type");
        Sentences.plain("Appends a byte to the text.");
        Sentences.test("- `code`: 0 to 255", "type(0) = 1; type(255) = 2\n", Sentences.argument("type(-1)", "type(256)"), "count(7) = 2\n");
        Sentences.test("Returns the length of the text then.", "type(65) = 1; type(65) = 2\n", Sentences.argument("type(256)"), "type(65) = 3; clearText() = 3; type(65) = 1\n", Sentences.times(148, "type(65)"), "type(65) = 150\n");
        Sentences.test("Throws `IllegalArgumentException` if code is out of range", Sentences.argument("type(-1)", "type(256)", "type(MIN)", "type(MAX)"), "type(255) = 1; type(0) = 2\n", Sentences.times(148, "type(65)"), Sentences.argument("type(-1)", "type(256)"));
        Sentences.test("Throws `IllegalStateException` if the text has 150 bytes", Sentences.times(149, "type(65)"), "type(65) = 150\n", Sentences.state("type(65)", "type(0)", "type(255)"), "count(7) = 150; clearText() = 150; type(65) = 1\n");
        Sentences.in("Promise 17: clearText");
        Sentences.test("Empties the text.", BASE, Sentences.text("A>B/60o", -1), "clearText() = 7; type(65) = 1; fault() = 1; type(62) = 2; fault() = 2; type(66) = 3; fault() = 3; type(47) = 4; fault() = 4; type(54) = 5; fault() = -1; load() = 1; tick(6); state() = 1; transition() = -1\n");
        Sentences.test("Empties the text.", BASE, Sentences.text("A>B/5x", 5), "clearText() = 6; count(7) = 0; fault() = 0\n", Sentences.state("load()"), Sentences.text("A>B/5", -1), "load() = 1\n");
        Sentences.test("Returns the length that it had.", BASE, "clearText() = 0; clearText() = 0; type(65) = 1; clearText() = 1; clearText() = 0\n", Sentences.text("A>B/5", -1), "load() = 1; clearText() = 0\n", Sentences.times(150, "type(65)"), "clearText() = 150; clearText() = 0\n");
    }

    private static void faultAndLoad() {
        Sentences.in("Promise 18: fault");
        Sentences.test("Returns the fault of the text, as a list of transitions that would be added now.", EdgesOfParts.CLIP, Sentences.text("A>B/5?b;A>A/6", 0), "addState(0, 100, true, 0); fault() = 2; addState(0, 100, true, 0); fault() = 6; addParameter(0); fault() = 6; addParameter(1); fault() = -1\n",
            Sentences.times(22, "addTransition(0, 1, 5)"), "fault() = -1; addTransition(0, 1, 5); fault() = 8; addTransition(0, 1, 5); fault() = 0; count(4) = 24; count(7) = 13\n");
        Sentences.test("Returns the fault; NONE if there is none.", BASE, "fault() = 0\n", Sentences.text("A>B/5", -1), "fault() = -1; count(4) = 0; type(59) = 6; fault() = 6; type(42) = 7; fault() = 7; type(60) = 8; fault() = 7; fault() = 7\n");
        Sentences.in("Promise 19: load");
        Sentences.test("Adds the transitions of the text, in order.", BASE, "addState(0, 100, true, 0) = 2; addTransition(0, 1, 5) = 0; addCondition(0, 1, 2, 1)\n", Sentences.text("A>C/7;A>B/8;*>A/9", -1), "load() = 3; count(4) = 4; tick(1); transition() = 1; target() = 2; tick(6); state() = 2; tick(1); transition() = 3; target() = 0; blocked(2) = 1\n");
        Sentences.test("Adds the transitions of the text, in order.", BASE, Sentences.text("A>B/5;".repeat(23) + "B>A/6", -1), "load() = 24; tick(5); state() = 1; tick(1); transition() = 23; count(4) = 24\n");
        Sentences.test("The text is empty then.", BASE, Sentences.text("A>B/5", -1), "load() = 1; count(7) = 0; fault() = 0; clearText() = 0; type(65) = 1\n");
        Sentences.test("Returns how many were added.", BASE, Sentences.text("A>B/5", -1), "load() = 1\n", Sentences.text("A>B/5;A>B/5", -1), "load() = 2; count(4) = 3\n", Sentences.text("A>B/5;".repeat(20) + "A>B/5", -1), "load() = 21; count(4) = 24\n");
        String refused = "Throws `IllegalStateException` if the text has a fault (it stays then)";
        Sentences.test(refused, BASE, Sentences.state("load()"), Sentences.text("A>B/5;A>B/5;", 12), Sentences.state("load()"), "count(7) = 12; count(4) = 0; fault() = 12; type(65) = 13; fault() = 13; type(62) = 14; type(66) = 15; type(47) = 16; fault() = 16; type(54) = 17; fault() = -1; load() = 3\n");
        Sentences.test(refused, BASE, Sentences.text("A>B/5;A>B/61", 10), Sentences.state("load()"), "count(4) = 0; count(7) = 12\n");
        Sentences.test(refused, BASE, Sentences.times(23, "addTransition(0, 1, 5)"), Sentences.text("A>B/5;A>B/6", 6), Sentences.state("load()"), "count(4) = 23; count(7) = 11\n");
    }
}
