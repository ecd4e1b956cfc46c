/** Every sentence of the document that names an edge has a test of its own; these run them all. */
final class EdgesTest {
  private EdgesTest() {
  }

  public static void main(String[] args) {
    EdgesOfTheStall.run();
    EdgesOfTheTape.run();
    EdgesOfAGo.run();
    EdgesOfThought.run();
    EdgesInTruth.run();
    EdgesOfPromises1.run();
    EdgesOfPromises2.run();
    Edges.uncovered();
    Due.end();
  }
}
