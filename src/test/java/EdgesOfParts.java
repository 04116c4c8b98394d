/** The boundaries that the description names for clips, blend trees, states and transitions. */
final class EdgesOfParts {
    /** One clip of 10 ticks, and its node. */
    static final String CLIP = "addClip(10) = 0; addClipNode(0) = 0\n";
    /** A state that advances by a tenth of WHOLE. */
    static final String ONE = CLIP + "addState(0, 100, true, 0) = 0\n";
    /** A number, and two clip nodes with clips of 10 ticks. */
    private static final String BLENDED = "addParameter(0) = 0; addClip(10) = 0; addClip(10) = 1; addClipNode(0) = 0; addClipNode(1) = 1\n";

    private EdgesOfParts() {
    }

    static void test() {
        use();
        numbers();
        parameters();
        clips();
        nodes();
        depths();
        parts();
        lines();
        states();
        tracks();
        transitions();
        conditions();
    }

    private static void use() {
        Sentences.in("What it is");
        Sentences.plain("An animation state machine: states play blend trees of clips");
        // Three calls, 508 ticks of four cycles, and the 512th call.
        Sentences.test("An object is used for at most 512 calls", "addClip(1); addClipNode(0); addState(0, 400, true, 0)\n",
            Sentences.times(508, "tick(100) = 0"), "progress(false) = 203200000000\n");
    }

    private static void numbers() {
        Sentences.in("Units");
        Sentences.plain("Time is counted in ticks.", "Parameters, clips");
        Script.due("WHOLE", AnimationController.WHOLE, 1000000);
        Sentences.test("WHOLE is 1000000; weights, shares and phases are ints in parts of WHOLE.", ONE,
            "partWeight(0, 0) = 1000000; poseWeight(0) = 1000000; tick(9); progress(false) = 900000; tick(1); progress(false) = 1000000\n");
        // From a negative position the way to the value is reckoned, not the value itself.
        Sentences.test("All divisions are integer divisions of numbers that are not negative, rounded down", BLENDED,
            "addLine(0) = 2; addChild(2, 0, -100); addChild(2, 1, -97); addState(2, 100, true, 0); set(0, -99); partWeight(0, 1) = 333333; partWeight(0, 0) = 666667\n",
            "set(0, -98); partWeight(0, 1) = 666666; partWeight(0, 0) = 333334\n");
        Sentences.test("All divisions are integer divisions of numbers that are not negative, rounded down",
            "addClip(7); addClipNode(0); addState(0, 100, true, 0); tick(1); progress(false) = 142857; tick(6); progress(false) = 999999; tick(1); progress(false) = 1142856\n");
        // More than 2147483647, which an int could not hold.
        Sentences.test("products are computed as longs", "addClip(1); addEvent(0, 0, 3); addClipNode(0); addState(0, 400, true, 0)\n",
            Sentences.times(5, "tick(100) = 100"), "tick(36) = 36; progress(false) = 2144000000; tick(1) = 1; progress(false) = 2148000000; poseTime(0) = 0\n",
            Sentences.times(6, "tick(100) = 100"), "progress(false) = 4548000000; fired() = 1137\n");
        Sentences.test("products are computed as longs", RunTest.THREE,
            "addTransition(0, 1, 60); setInterruption(0, 2, false); addTransition(1, 2, 60); addCondition(1, 0, 2, 1); tick(30); set(0, 1); tick(1); isFrozen() = true\n",
            "# 500000 of each; 983334 parts of that are 491667, and their product is above 2147483647\n",
            Sentences.pose(0, 0, 491667, 1, 0, 491667, 2, 1, 16666));
    }

    private static void parameters() {
        Sentences.test("There are at most 8 parameters, numbered from 0.", Sentences.index("value(0)", "set(0, 0)"),
            "addParameter(2) = 0; addParameter(1) = 1; addParameter(0) = 2; addParameter(2) = 3; addParameter(1) = 4; addParameter(0) = 5; addParameter(2) = 6\n",
            Sentences.index("value(7)"), "addParameter(1) = 7; value(7) = 0; set(7, 1) = 0; value(7) = 1; count(0) = 8\n",
            Sentences.state("addParameter(0)", "addParameter(1)", "addParameter(2)"), Sentences.index("value(8)", "value(-1)"), "count(0) = 8; value(7) = 1\n");
        Sentences.test("A parameter is a number (kind 0, from -100 to 100), a switch (kind 1) or a trigger (kind 2; both 0 or 1).",
            "addParameter(0) = 0; addParameter(1) = 1; addParameter(2) = 2\n",
            "set(0, -100) = 0; set(0, 100) = -100\n", Sentences.argument("set(0, -101)", "set(0, 101)"),
            "set(1, 1) = 0; set(1, 0) = 1\n", Sentences.argument("set(1, -1)", "set(1, 2)"),
            "set(2, 1) = 0; set(2, 0) = 1\n", Sentences.argument("set(2, -1)", "set(2, 2)", "addParameter(-1)", "addParameter(3)"),
            "value(0) = 100; value(1) = 0; value(2) = 0\n");
        Sentences.test("Its value is at first 0.", ONE, "addParameter(0) = 0; value(0) = 0; set(0, 50); addParameter(0) = 1; value(1) = 0; addParameter(1) = 2; value(2) = 0\n",
            "set(2, 1); tick(5); addParameter(2) = 3; value(3) = 0; value(0) = 50; value(2) = 1\n");
    }

    private static void clips() {
        Sentences.test("There are at most 12 clips, numbered from 0.", Sentences.index("addClipNode(0)"),
            "addClip(1) = 0; addClip(2) = 1; addClip(3) = 2; addClip(4) = 3; addClip(5) = 4; addClip(6) = 5; addClip(7) = 6; addClip(8) = 7; addClip(9) = 8; addClip(10) = 9; addClip(11) = 10\n",
            Sentences.index("addClipNode(11)"), "addClip(12) = 11; addClipNode(11) = 0\n", Sentences.state("addClip(13)"),
            Sentences.index("addClipNode(12)", "addClipNode(-1)"), "count(1) = 12; addState(0, 100, true, 0) = 0; stateLength(0) = 12; partWeight(0, 11) = 1000000\n");
        Sentences.test("A clip has a length, 1 to 500 ticks", "addClip(1) = 0; addClip(500) = 1\n", Sentences.argument("addClip(0)", "addClip(501)"),
            "addClipNode(0); addClipNode(1); addState(0, 100, true, 0); addState(1, 100, true, 0); stateLength(0) = 1; stateLength(1) = 500\n");
        Sentences.test("and at most 5 events", "addClip(10)\n", "addEvent(0, 3, 1) = 1; addEvent(0, 3, 1) = 2; addEvent(0, 9, 2) = 3; addEvent(0, 0, 3) = 4; addEvent(0, 5, 4) = 5\n",
            Sentences.state("addEvent(0, 5, 4)", "addEvent(0, 0, 0)"), "addClip(10) = 1; addEvent(1, 5, 4) = 1; addClipNode(0); addState(0, 100, true, 0); tick(9) = 5; event(4, 1) = 2\n");
        Sentences.test("an event has a time, from 0 to the length - 1", "addClip(1); addClip(500)\n", "addEvent(0, 0, 5) = 1\n", Sentences.argument("addEvent(0, 1, 5)", "addEvent(0, -1, 5)"),
            "addEvent(1, 499, 5) = 1; addEvent(1, 0, 5) = 2\n", Sentences.argument("addEvent(1, 500, 5)", "addEvent(1, -1, 5)"));
        Sentences.test("and an id, 0 to 99", "addClip(1)\n", "addEvent(0, 0, 0) = 1; addEvent(0, 0, 99) = 2\n", Sentences.argument("addEvent(0, 0, -1)", "addEvent(0, 0, 100)"),
            "addClipNode(0); addState(0, 100, true, 0); tick(1) = 2; event(0, 1) = 0; event(1, 1) = 99\n");
        // A tick is a whole cycle here, so it passes all of them.
        Sentences.test("The events of a clip are ordered by time, those with equal times in the order in which they were added.", "addClip(4)\n",
            "addEvent(0, 3, 1) = 1; addEvent(0, 0, 2) = 2; addEvent(0, 3, 3) = 3; addEvent(0, 0, 4) = 4; addEvent(0, 1, 5) = 5; addClipNode(0); addState(0, 400, true, 0); tick(1) = 5\n",
            "event(0, 1) = 2; event(1, 1) = 4; event(2, 1) = 5; event(3, 1) = 1; event(4, 1) = 3; tick(1) = 5; event(5, 1) = 2; event(6, 1) = 4; event(9, 1) = 3\n");
    }

    private static void nodes() {
        Sentences.in("Blend trees");
        Sentences.test("There are at most 20 nodes, numbered from 0.", "addParameter(0); addClip(10)\n", Sentences.index("addState(0, 100, true, 0)"),
            "addLine(0) = 0; addClipNode(0) = 1\n", Sentences.times(17, "addClipNode(0)"), Sentences.index("addState(19, 100, true, 0)"),
            "count(2) = 19; addLine(0) = 19; addChild(19, 18, 0) = 1\n", Sentences.state("addClipNode(0)", "addLine(0)"), "count(2) = 20; addState(19, 100, true, 0) = 0\n",
            Sentences.index("addState(20, 100, true, 0)", "addState(-1, 100, true, 0)"));
        Sentences.test("a line, which has a parameter that is a number", "addParameter(1); addParameter(0); addParameter(2)\n", Sentences.state("addLine(0)", "addLine(2)"), "addLine(1) = 0\n");
        Sentences.test("and at most 5 children", BLENDED, "addLine(0) = 2; addLine(0) = 3\n",
            "addChild(2, 0, 0) = 1; addChild(2, 0, 1) = 2; addChild(2, 0, 2) = 3; addChild(2, 0, 3) = 4; addChild(2, 1, 4) = 5\n", Sentences.state("addChild(2, 0, 5)", "addChild(2, 0, -100)"),
            "addChild(3, 0, 5) = 1; addState(2, 100, true, 0); set(0, 4); partWeight(0, 1) = 1000000; set(0, 5); partWeight(0, 1) = 1000000; set(0, -1); partWeight(0, 1) = 0\n");
        Sentences.test("at different positions", BLENDED, "addLine(0) = 2; addChild(2, 0, 7) = 1\n", Sentences.state("addChild(2, 0, 7)", "addChild(2, 1, 7)"),
            "addChild(2, 1, 6) = 2; addChild(2, 1, 8) = 3\n", Sentences.state("addChild(2, 0, 6)", "addChild(2, 0, 7)", "addChild(2, 0, 8)"), "addLine(0) = 3; addChild(3, 0, 7) = 1\n");
        Sentences.test("from -100 to 100", BLENDED, "addLine(0) = 2\n", Sentences.argument("addChild(2, 0, -101)", "addChild(2, 0, 101)"), "addChild(2, 0, -100) = 1; addChild(2, 1, 100) = 2\n",
            "addState(2, 100, true, 0); set(0, -100); partWeight(0, 0) = 1000000; set(0, 100); partWeight(0, 1) = 1000000; set(0, 99); partWeight(0, 1) = 995000; set(0, -99); partWeight(0, 1) = 5000\n");
        Sentences.test("a child is a node with a lower number than the line", BLENDED, "addLine(0) = 2; addClipNode(0) = 3; addLine(0) = 4\n",
            Sentences.argument("addChild(2, 2, 0)", "addChild(2, 3, 0)", "addChild(4, 4, 0)"), "addChild(2, 1, 0) = 1; addChild(4, 3, 0) = 1; addChild(4, 0, 1) = 2\n");
        Sentences.test("(it can be the child of several lines, and several times of the same line)", BLENDED, "addLine(0) = 2; addLine(0) = 3\n",
            "addChild(2, 0, 0) = 1; addChild(2, 0, 1) = 2; addChild(2, 0, 2) = 3; addChild(3, 0, 0) = 1; addChild(3, 2, 1) = 2; addChild(3, 2, 5) = 3\n",
            "addState(3, 100, true, 0); set(0, 3); partWeight(0, 0) = 1000000; poseSize() = 1\n");
        Sentences.test("A clip node is complete; a line is complete if it has a child.", BLENDED, "addLine(0) = 2; addLine(0) = 3\n",
            Sentences.state("addState(2, 100, true, 0)", "addChild(3, 2, 0)"), "addState(1, 100, true, 0) = 0; addChild(2, 0, 0) = 1; addState(2, 100, true, 0) = 1; addChild(3, 2, 0) = 1; addState(3, 100, true, 0) = 2\n");
    }

    private static void depths() {
        String depth = "The depth of a clip node, and of a line without children, is 1; that of another line is 1 plus the greatest depth of its children; it is at most 4.";
        Sentences.test(depth, BLENDED, "addLine(0) = 2; addLine(0) = 3; addLine(0) = 4; addLine(0) = 5; addChild(2, 0, 0) = 1; addChild(3, 2, 0) = 1; addChild(4, 3, 0) = 1\n",
            Sentences.state("addChild(5, 4, 0)"), "addChild(5, 3, 0) = 1; addState(4, 100, true, 0) = 0; partWeight(0, 0) = 1000000\n");
        // The greatest depth counts, wherever among the children it is.
        Sentences.test(depth, BLENDED, "addLine(0) = 2; addLine(0) = 3; addLine(0) = 4; addLine(0) = 5; addChild(2, 0, 0) = 1; addChild(3, 2, 0) = 1; addChild(3, 0, -1) = 2; addChild(3, 1, 1) = 3\n",
            "addChild(4, 0, -1) = 1; addChild(4, 3, 0) = 2; addChild(4, 1, 1) = 3\n", Sentences.state("addChild(5, 4, 0)"));
        // A child makes the lines above deeper, too: from 4 it cannot, from 3 it can.
        Sentences.test(depth, BLENDED, "addLine(0) = 2; addLine(0) = 3; addLine(0) = 4; addLine(0) = 5; addChild(2, 0, 0) = 1; addChild(3, 0, 0) = 1; addChild(4, 3, 0) = 1; addChild(5, 4, 0) = 1\n",
            Sentences.state("addChild(3, 2, 5)"), "addChild(3, 1, 5) = 2; addChild(4, 2, 5) = 2\n", Sentences.state("addChild(3, 2, 6)"));
    }

    private static void parts() {
        // 333333; of the other 666667 a third, 222222; and the rest.
        Sentences.test("consists of parts, each with a clip and a weight; the weights sum to w.", BLENDED,
            "addClip(10) = 2; addClipNode(2) = 2; addLine(0) = 3; addLine(0) = 4; addChild(3, 0, 0); addChild(3, 1, 3); addChild(4, 3, 0); addChild(4, 2, 3); addState(4, 100, true, 0)\n",
            "set(0, 1); partWeight(0, 2) = 333333; partWeight(0, 1) = 222222; partWeight(0, 0) = 444445; set(0, 2); partWeight(0, 2) = 666666; partWeight(0, 1) = 222222; partWeight(0, 0) = 111112\n");
        // In three lines, one in the other: 10000, 100 and 1 of clip 1; and 5000, 25 and 0 of it.
        String three = BLENDED + "addEvent(1, 0, 9); addLine(0) = 2; addLine(0) = 3; addLine(0) = 4; addChild(2, 0, -100); addChild(2, 1, 100); addChild(3, 0, -100); addChild(3, 2, 100)\n"
            + "addChild(4, 0, -100); addChild(4, 3, 100); addState(4, 100, true, 0); setThreshold(0)\n";
        Sentences.test("If w is 0, it has no parts.", three, "set(0, -98); partWeight(0, 1) = 1; poseSize() = 2; poseWeight(1) = 1; tick(1) = 1\n");
        Sentences.test("If w is 0, it has no parts.", three, "set(0, -99); partWeight(0, 1) = 0; partWeight(0, 0) = 1000000; poseSize() = 1; tick(1) = 0\n");
        Sentences.test("The blend of a clip node has one part, the clip with the weight w.", BLENDED, "addState(1, 100, true, 0); partWeight(0, 1) = 1000000; partWeight(0, 0) = 0\n",
            Sentences.pose(1, 0, 1000000));
        Sentences.test("Parts with the same clip are combined into one, with the sum of their weights", BLENDED, "addEvent(0, 0, 5); addClipNode(0) = 2; addLine(0) = 3\n",
            "addChild(3, 0, 0); addChild(3, 2, 100); addState(3, 100, true, 0); set(0, 50); partWeight(0, 0) = 1000000; setThreshold(100)\n", Sentences.pose(0, 0, 1000000), "tick(1) = 1\n");
        Sentences.test("the parts are ordered by ascending clips.", BLENDED, "addEvent(0, 0, 5); addEvent(1, 0, 6); addLine(0) = 2; addChild(2, 1, 0); addChild(2, 0, 100)\n",
            "addState(2, 100, true, 0); set(0, 40)\n", Sentences.pose(0, 0, 400000, 1, 0, 600000), "tick(1) = 2; event(0, 1) = 5; event(1, 1) = 6\n");
    }

    private static void lines() {
        Sentences.plain("For a line let v be the value of its parameter.");
        String three = BLENDED + "addClip(10) = 2; addClipNode(2) = 2; addLine(0) = 3; addChild(3, 1, 0); addChild(3, 2, 5); addChild(3, 0, -5); addState(3, 100, true, 0)\n";
        Sentences.test("If v is at most the lowest position", three, "set(0, -100); partWeight(0, 0) = 1000000; set(0, -6); partWeight(0, 0) = 1000000; set(0, -5); partWeight(0, 0) = 1000000; poseSize() = 1\n",
            "set(0, -4); partWeight(0, 0) = 800000; partWeight(0, 1) = 200000; poseSize() = 2\n");
        Sentences.test("or at least the greatest one", three, "set(0, 4); partWeight(0, 2) = 800000; partWeight(0, 1) = 200000; set(0, 5); partWeight(0, 2) = 1000000; poseSize() = 1\n",
            "set(0, 6); partWeight(0, 2) = 1000000; set(0, 100); partWeight(0, 2) = 1000000; partWeight(0, 1) = 0\n");
        Sentences.test("or equal to another one", three, "set(0, -1); partWeight(0, 0) = 200000; partWeight(0, 1) = 800000; set(0, 0); partWeight(0, 1) = 1000000; poseSize() = 1\n",
            "set(0, 1); partWeight(0, 1) = 800000; partWeight(0, 2) = 200000; partWeight(0, 0) = 0\n");
        Sentences.test("its blend is that of the child at the lowest, the greatest, or this position, with the weight w.", BLENDED, "addLine(0) = 2; addChild(2, 1, 3); addState(2, 100, true, 0)\n",
            "set(0, 2); partWeight(0, 1) = 1000000; set(0, 3); partWeight(0, 1) = 1000000; set(0, 4); partWeight(0, 1) = 1000000; poseSize() = 1\n");
        // All of the weight goes to the child in one: a quarter of it is 250000, whatever a part of it were.
        String nested = "addParameter(0); addParameter(0); addClip(10); addClip(10); addClipNode(0); addClipNode(1); addLine(0) = 2; addChild(2, 0, 0); addChild(2, 1, 4); addLine(1) = 3; addChild(3, 2, -5); addChild(3, 2, 0); addChild(3, 2, 5); addState(3, 100, true, 0); set(0, 1)\n";
        Sentences.test("its blend is that of the child at the lowest, the greatest, or this position, with the weight w.", nested, "set(1, -5); partWeight(0, 1) = 250000; set(1, -6); partWeight(0, 1) = 250000; set(1, 0); partWeight(0, 1) = 250000; set(1, 5); partWeight(0, 1) = 250000; set(1, 6); partWeight(0, 1) = 250000; partWeight(0, 0) = 750000\n");
        // Of five children those next to the value on both sides, however far the others are.
        Sentences.test("Otherwise let p be the greatest position below v, and q the lowest one above v", BLENDED, "addClip(10); addClip(10); addClip(10); addClipNode(2); addClipNode(3); addClipNode(4); addLine(0) = 5\n",
            "addChild(5, 4, 100); addChild(5, 3, 50); addChild(5, 2, 0); addChild(5, 1, -50); addChild(5, 0, -100); addState(5, 100, true, 0)\n",
            "set(0, -99); partWeight(0, 1) = 20000; partWeight(0, 0) = 980000; set(0, -51); partWeight(0, 1) = 980000; partWeight(0, 0) = 20000; set(0, -49); partWeight(0, 2) = 20000; partWeight(0, 1) = 980000\n",
            "set(0, 49); partWeight(0, 3) = 980000; partWeight(0, 2) = 20000; set(0, 51); partWeight(0, 4) = 20000; partWeight(0, 3) = 980000; set(0, 99); partWeight(0, 4) = 980000; poseSize() = 2\n");
    }

    private static void states() {
        Sentences.in("States");
        Sentences.test("There are at most 10 states, numbered from 0.", CLIP, Sentences.index("stateLength(0)"),
            "addState(0, 1, true, 0) = 0; addState(0, 2, true, 0) = 1; addState(0, 3, true, 0) = 2; addState(0, 4, true, 0) = 3; addState(0, 5, true, 0) = 4; addState(0, 6, true, 0) = 5\n",
            "addState(0, 7, true, 0) = 6; addState(0, 8, true, 0) = 7; addState(0, 9, true, 0) = 8\n", Sentences.index("stateLength(9)"), "addState(0, 10, true, 0) = 9; stateLength(9) = 10\n",
            Sentences.state("addState(0, 11, true, 0)"), Sentences.index("stateLength(10)", "stateLength(-1)"), "count(3) = 10\n");
        Sentences.test("a motion, which is a complete node", "addParameter(0)\n", CLIP, "addLine(0) = 1\n", Sentences.state("addState(1, 100, true, 0)"), "addState(0, 100, true, 0) = 0\n",
            "addChild(1, 0, 0) = 1; addState(1, 100, true, 0) = 1\n");
        Sentences.test("a speed in percent (1 to 400)", CLIP, "addState(0, 1, true, 0) = 0; addState(0, 400, true, 0) = 1\n", Sentences.argument("addState(0, 0, true, 0)", "addState(0, 401, true, 0)", "addState(0, -1, true, 0)"),
            "addTransition(0, 1, 0); tick(1); progress(false) = 400000; reset(); setTiming(0, 300, 0); tick(1); progress(false) = 1000\n");
        Sentences.test("and a group (1 to 3, or 0 for none)", CLIP, "addState(0, 100, true, 0) = 0; addState(0, 100, true, 1) = 1; addState(0, 100, true, 3) = 2\n", Sentences.argument("addState(0, 100, true, -1)", "addState(0, 100, true, 4)"));
        Sentences.test("The length of a state is the sum of (weight * length of the clip) over all parts of the blend of its motion with the weight WHOLE, divided by WHOLE, but at least 1.",
            "addParameter(0); addClip(1); addClip(500); addClip(2); addClipNode(0); addClipNode(1); addClipNode(2); addLine(0) = 3; addChild(3, 0, 0); addChild(3, 2, 100); addLine(0) = 4; addChild(4, 1, 0); addChild(4, 0, 100)\n",
            "addState(0, 100, true, 0); addState(1, 100, true, 0); addState(3, 100, true, 0); addState(4, 100, true, 0); stateLength(0) = 1; stateLength(1) = 500\n",
            "# 1.99 is rounded down, and 495.01, too\n",
            "set(0, 99); stateLength(2) = 1; set(0, 100); stateLength(2) = 2; set(0, 1); stateLength(3) = 495; stateLength(2) = 1; set(0, 0); stateLength(3) = 500\n");
        // 999999 * 2 + 1 * 1 is one less than two whole ticks.
        Sentences.test("divided by WHOLE, but at least 1.", "addParameter(0); addClip(2); addClip(1); addClipNode(0); addClipNode(1); addLine(0) = 2; addLine(0) = 3; addLine(0) = 4; addChild(2, 0, 0); addChild(2, 1, 100); addChild(3, 0, 0); addChild(3, 2, 100); addChild(4, 0, 0); addChild(4, 3, 100)\n",
            "addState(4, 100, true, 0); stateLength(0) = 2; set(0, 1); partWeight(0, 0) = 999999; stateLength(0) = 1\n");
        Sentences.test("It depends on the present values of the parameters.", "addParameter(0); addClip(10); addClip(20); addClipNode(0); addClipNode(1); addLine(0); addChild(2, 0, 0); addChild(2, 1, 10); addState(2, 100, true, 0)\n",
            "stateLength(0) = 10; tick(1); progress(false) = 100000; set(0, 10); stateLength(0) = 20; tick(1); progress(false) = 150000; set(0, 1); stateLength(0) = 11; reset(); stateLength(0) = 10\n");
    }

    private static void tracks() {
        Sentences.test("and is fresh until it has been advanced for the first time.", "addClip(10); addEvent(0, 0, 1); addEvent(0, 1, 2); addClipNode(0); addState(0, 100, true, 0)\n",
            "# at 0 as it is fresh, and at 100000; then it stands at 100000, and is fresh no more\n", "tick(1) = 2; tick(1) = 0; tick(7) = 0; tick(1) = 1; event(2, 1) = 1; tick(1) = 1; event(3, 1) = 2; tick(1) = 0\n");
        // The target of a second transition is fresh as well, and so is the first state after a reset.
        String again = "addClip(10); addClip(10); addEvent(0, 0, 1); addEvent(1, 5, 2); addEvent(1, 6, 3); addClipNode(0); addClipNode(1); addState(0, 100, true, 0); addState(1, 100, true, 0); addState(1, 100, true, 0); addTransition(0, 1, 2); addTransition(1, 2, 2); setTiming(0, NONE, 70); setTiming(1, 110, 50); setThreshold(0)\n";
        Sentences.test("and is fresh until it has been advanced for the first time.", again, "tick(4) = 1; event(0, 1) = 1; state() = 1; progress(false) = 1100000; tick(1) = 2; event(1, 1) = 2; event(1, 3) = 2; event(2, 1) = 3; tick(1) = 0; state() = 2; reset() = 6; tick(1) = 1; event(0, 1) = 1\n");
        Sentences.test("Its progress is cycles * WHOLE + phase.", ONE, "tick(9); progress(false) = 900000; poseTime(0) = 9; tick(1); progress(false) = 1000000; poseTime(0) = 0; tick(1); progress(false) = 1100000; poseTime(0) = 1\n");
        Sentences.test("if its state loops, its progress increases by x, where the phase stays from 0 to WHOLE - 1", "addClip(3); addClipNode(0); addState(0, 100, true, 0)\n",
            "tick(3); progress(false) = 999999; poseTime(0) = 2; tick(1); progress(false) = 1333332; poseTime(0) = 0; tick(1); progress(false) = 1666665; poseTime(0) = 1\n");
        Sentences.test("otherwise its phase increases by x, but to at most WHOLE, and its cycles stay 0.", "addClip(3); addClipNode(0); addState(0, 100, false, 0)\n",
            "tick(3); progress(false) = 999999; poseTime(0) = 2; tick(1); progress(false) = 1000000; poseTime(0) = 2; tick(1); progress(false) = 1000000; tick(100); progress(false) = 1000000\n");
        Sentences.test("otherwise its phase increases by x, but to at most WHOLE, and its cycles stay 0.", "addClip(1); addClipNode(0); addState(0, 400, false, 0); tick(1); progress(false) = 1000000\n");
        Sentences.test("The step of a track is WHOLE * speed / (100 * length of the state).", "addClip(500); addClip(1); addClip(499); addClipNode(0); addClipNode(1); addClipNode(2)\n",
            "addState(0, 1, true, 0); addState(1, 400, true, 0); addState(2, 399, true, 0); addTransition(0, 1, 0); addTransition(1, 2, 0); setTiming(0, 1, 0); setTiming(1, 300, 0)\n",
            "tick(1); progress(false) = 20; tick(99); tick(100); tick(100); tick(100); tick(100); progress(false) = 10000; state() = 0; tick(1); state() = 1; progress(false) = 4000000\n",
            "tick(1); state() = 2; progress(false) = 7995\n");
    }

    private static void transitions() {
        Sentences.in("Transitions");
        Sentences.test("There are at most 24 transitions, numbered from 0.", ONE, Sentences.index("blocked(0)"), "addTransition(0, 0, 5) = 0\n", Sentences.times(22, "addTransition(0, 0, 5)"), Sentences.index("blocked(23)"),
            "addTransition(ANY, 0, 5) = 23; blocked(23) = 1; blocked(22) = 0\n", Sentences.state("addTransition(0, 0, 5)", "addTransition(ANY, 0, 5)"), Sentences.index("blocked(24)", "blocked(-1)"), "count(4) = 24\n");
        Sentences.test("A transition leads from a state, or from any state, to a state, possibly the same one.", CLIP, Sentences.times(10, "addState(0, 100, true, 0)"),
            "addTransition(9, 9, 5) = 0; addTransition(0, 0, 5) = 1; addTransition(ANY, 9, 5) = 2\n", Sentences.index("addTransition(10, 0, 5)", "addTransition(0, 10, 5)", "addTransition(-2, 0, 5)", "addTransition(0, -1, 5)", "addTransition(ANY, -1, 5)"),
            "tick(1); transition() = 2; state() = 0; target() = 9; tick(4); transition() = -1; state() = 9; tick(1); transition() = 0; state() = 9; target() = 9\n");
        String has = CLIP + "addState(0, 100, true, 0); addParameter(1)\n";
        Sentences.test("It has a duration (0 to 60 ticks)", has, "addTransition(0, 0, 0) = 0; addTransition(0, 0, 60) = 1\n", Sentences.argument("addTransition(0, 0, -1)", "addTransition(0, 0, 61)"));
        Sentences.test("an exit (0 to 300, or none; none for a transition from any state)", has, "addTransition(0, 0, 5) = 0; addTransition(ANY, 0, 5) = 1; setTiming(0, 0, 0) = -1; setTiming(0, 300, 0) = 0; setTiming(0, NONE, 0) = 300\n",
            Sentences.argument("setTiming(0, -2, 0)", "setTiming(0, 301, 0)"), "setTiming(1, NONE, 0) = -1\n", Sentences.state("setTiming(1, 0, 0)", "setTiming(1, 300, 0)"), Sentences.argument("setTiming(1, -2, 0)", "setTiming(1, 301, 0)"));
        Sentences.test("a start (0 to 99)", has, "addTransition(0, 0, 5) = 0; setTiming(0, NONE, 0) = -1; setTiming(0, NONE, 99) = -1\n", Sentences.argument("setTiming(0, NONE, -1)", "setTiming(0, NONE, 100)"), "tick(1); progress(true) = 1090000\n");
        Sentences.test("an interruption mode (0 to 4)", has, "addTransition(0, 0, 5) = 0; setInterruption(0, 0, false) = 0; setInterruption(0, 4, false) = 0\n", Sentences.argument("setInterruption(0, -1, false)", "setInterruption(0, 5, false)"), "setInterruption(0, 1, true) = 4\n");
        Sentences.test("and at most 3 conditions.", has, "addTransition(0, 0, 5) = 0; addCondition(0, 0, 2, 0) = 1; addCondition(0, 0, 2, 0) = 2; addCondition(0, 0, 2, 0) = 3\n", Sentences.state("addCondition(0, 0, 2, 0)", "addCondition(0, 0, 2, 1)"),
            "blocked(0) = 0; set(0, 1); blocked(0) = 3\n");
        String added = "When it is added, it has no exit, the start 0, the mode 0, no mark and no conditions.";
        Sentences.test(added, RunTest.THREE, "addTransition(0, 1, 5) = 0; addTransition(0, 2, 5) = 1; addTransition(1, 2, 5) = 2; blocked(0) = 0; tick(1); transition() = 0; progress(true) = 100000\n",
            "blocked(1) = 1; blocked(2) = 1; setTiming(0, NONE, 0) = -1; setInterruption(0, 1, false) = 0; blocked(1) = 0; addCondition(0, 0, 2, 1) = 1\n");
        // As a text adds them: with a mark, 0 could not be interrupted by 1, which has the greater number.
        Sentences.test(added, RunTest.THREE, Sentences.text("A>B/5!1;A>C/5", -1), "load() = 2; tick(1); transition() = 1; isFrozen() = true; progress(true) = 100000; setTiming(0, NONE, 0) = -1; setInterruption(1, 0, false) = 0; addCondition(1, 0, 2, 1) = 1\n");
    }

    private static void conditions() {
        String condition = "A condition has a parameter, an operator (0 greater than, 1 less than, 2 equal to, 3 not equal to) and a value; it holds if the value of the parameter has this relation to the value of the condition.";
        String four = BuildTest.BASE + "addTransition(0, 1, 5); addTransition(0, 1, 5); addTransition(0, 1, 5); addTransition(0, 1, 5)\n";
        Sentences.test(condition, four, "addCondition(0, 0, 0, 0); addCondition(1, 0, 1, 0); addCondition(2, 0, 2, 0); addCondition(3, 0, 3, 0)\n",
            "set(0, -1); blocked(0) = 3; blocked(1) = 0; blocked(2) = 3; blocked(3) = 0; set(0, 0); blocked(0) = 3; blocked(1) = 3; blocked(2) = 0; blocked(3) = 3\n",
            "set(0, 1); blocked(0) = 0; blocked(1) = 3; blocked(2) = 3; blocked(3) = 0\n");
        Sentences.test(condition, four, "addCondition(0, 0, 0, 99); addCondition(1, 0, 1, -99); addCondition(2, 0, 2, 100); addCondition(3, 0, 3, -100)\n",
            "set(0, 99); blocked(0) = 3; blocked(2) = 3; set(0, 100); blocked(0) = 0; blocked(2) = 0; set(0, -99); blocked(1) = 3; blocked(3) = 0; set(0, -100); blocked(1) = 0; blocked(3) = 3\n");
        Sentences.test(condition, four, Sentences.argument("addCondition(0, 0, -1, 0)", "addCondition(0, 0, 4, 0)"), "addCondition(0, 1, 2, 0); addCondition(1, 1, 2, 1); addCondition(2, 2, 2, 1)\n",
            "blocked(0) = 0; blocked(1) = 3; blocked(2) = 3; set(1, 1); set(2, 1); blocked(0) = 3; blocked(1) = 0; blocked(2) = 0\n");
    }
}
