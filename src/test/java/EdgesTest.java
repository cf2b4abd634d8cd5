/**
 * Each sentence of the document's terms and promises, quoted, with a test of the edges that it names: too
 * small, too large, empty, full, round, refused. Words of the document that no test quotes are a fault.
 */
public final class EdgesTest extends Edges {
  public static void main(String[] args) {
    EdgesOfRefusals.run();
    EdgesOfSpots.run();
    EdgesOfBends.run();
    EdgesOfFrames.run();
    EdgesOfLayers.run();
    endOfWords();
    for (String piece : document.unquoted()) {
      due.is("no test quotes " + piece, 1, 0);
    }
    due.end();
  }
}
