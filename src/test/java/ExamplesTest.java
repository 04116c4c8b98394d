/** The examples that stand in the document. */
final class ExamplesTest {
    public static void main(String[] args) {
        Script.run("example 1", "addClip(10) = 0; addEvent(0, 0, 7) = 1; addClipNode(0) = 0; addState(0, 100, true, 0) = 0;"
            + "tick(1) = 1; fired() = 1; progress(false) = 100000; tick(9) = 1; fired() = 2; event(1, 0) = 10; progress(false) = 1000000");
        Script.run("example 2", "addParameter(0) = 0; addClip(20) = 0; addClip(10) = 1; addClipNode(0) = 0; addClipNode(1) = 1;"
            + "addLine(0) = 2; addChild(2, 0, 0) = 1; addChild(2, 1, 3) = 2; addState(2, 100, true, 0) = 0; set(0, 1) = 0;"
            + "partWeight(0, 1) = 333333; partWeight(0, 0) = 666667; stateLength(0) = 16");
        Script.run("example 3", "addClip(8) = 0; addClipNode(0) = 0; addState(0, 100, true, 0) = 0; addState(0, 100, true, 0) = 1;"
            + "addTransition(0, 1, 4) = 0; tick(1) = 0; target() = 1; elapsed() = 1; poseSize() = 1; poseWeight(0) = 1000000;"
            + "tick(3) = 0; state() = 1; target() = -1");
        Script.run("example 4", "addClip(8) = 0; addClipNode(0) = 0; addState(0, 100, true, 0) = 0;"
            + "type(65) = 1; type(62) = 2; type(66) = 3; type(47) = 4; type(52) = 5; fault() = 2");
        Script.run("example 5", "state() = throws IllegalStateException; addState(0, 100, true, 0) = throws IndexOutOfBoundsException;"
            + "addParameter(1) = 0; set(0, 2) = throws IllegalArgumentException; addLine(0) = throws IllegalStateException");
        Script.end();
    }
}
