/** Each sentence of the document that names an edge has a test of its own, which quotes it. */
public final class EdgesTest {
  public static void main(String[] args) {
    RollEdges.run();
    MusicEdges.run();
    ValveEdges.run();
    PlayEdges.run();
    SoundingEdges.run();
    SumEdges.run();
    Doc.isQuotedWhole();
    Check.end("EdgesTest");
  }
}
