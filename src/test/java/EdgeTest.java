import java.io.IOException;
import java.nio.file.Path;

/** Sentence by sentence: the bounds that the document names, what lies next to them, and refused calls. */
public final class EdgeTest {
  private EdgeTest() {
  }

  public static void main(String[] args) throws IOException {
    Edges edges = new Edges("EdgeTest", Path.of("../shared/DOC.md"));
    EdgesOfPlank.look(edges);
    EdgesOfTexts.look(edges);
    EdgesOfWalks.look(edges);
    EdgesOfWays.look(edges);
    EdgesOfHost.look(edges);
    edges.end();
  }
}
