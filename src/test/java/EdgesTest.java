import java.nio.file.Path;

/**
 * Each sentence of the document that names an edge, with a test of its own on both sides of it. With the path of the
 * document as an argument it also tells which of its sentences no test names.
 */
public final class EdgesTest {
  public static void main(String[] args) throws Exception {
    LineEdges.check();
    OrderEdges.check();
    DayEdges.check();
    RuleEdges.check();
    MendingEdges.check();
    SheetEdges.check();
    if (args.length > 0) Edges.tellUntested(Path.of(args[0]));
    Edges.end();
  }
}
