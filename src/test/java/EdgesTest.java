import java.io.IOException;

/** Each sentence of the document that names an edge, tested by itself. */
public final class EdgesTest {
  public static void main(String[] args) throws IOException {
    Edges edges = new Edges();
    new ProgramEdges(edges).all();
    new SolvingEdges(edges).all();
    new HandEdges(edges).all();
    edges.close();
  }
}
