/** Each sentence of the document that names a boundary, with a script of its own; the words of the sentence are its title. */
public final class EdgesTest {
  public static void main(String[] args) {
    PolynomialEdges.all();
    GeneratorEdges.all();
    MonoidEdges.all();
    RelationEdges.all();
    SubductionEdges.all();
    SheetEdges.all();
    RefusalEdges.all();
    Edge.end();
  }
}
