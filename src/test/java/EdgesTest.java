import java.io.IOException;

/** Each sentence of the document that names a boundary case: too small, too large, empty, full, or refused. */
public final class EdgesTest {
  public static void main(String[] args) throws IOException {
    WordEdges.all();
    GroupEdges.all();
    MapEdges.all();
    MoveEdges.all();
    SameEdges.all();
    OrderEdges.all();
    TermEdges.all();
    Edges.heldAgainstTheDocument();
    Check.end("EdgesTest");
  }
}
