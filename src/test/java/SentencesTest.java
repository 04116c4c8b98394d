/** A test for each sentence of the document that names a boundary; each of them quotes its sentence. */
final class SentencesTest {
    public static void main(String[] args) {
        EdgesOfParts.test();
        EdgesOfMachine.test();
        EdgesOfText.test();
        EdgesOfBuilding.test();
        EdgesOfRunning.test();
        Sentences.requireAllQuoted();
        Script.end();
    }
}
