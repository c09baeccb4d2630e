import java.io.IOException;

/** Each sentence of the document, tested by itself. */
public final class EdgesTest {
  public static void main(String[] args) throws IOException {
    Edges edges = new Edges();
    new TermsEdges(edges).all();
    new ProgramEdges(edges).all();
    new SolvingEdges(edges).all();
    new HandEdges(edges).all();
    edges.close();
  }
}
