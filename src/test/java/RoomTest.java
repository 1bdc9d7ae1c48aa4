import java.lang.management.ManagementFactory;

/**
 * All calls of one run share a room of some 600,000 objects and 7.3 million fields and elements, and nothing is given back:
 * what the constructor and the dearest calls make is measured here, in bytes, eight to an element.
 */
public final class RoomTest {
  private static final com.sun.management.ThreadMXBean THREADS = (com.sun.management.ThreadMXBean) ManagementFactory.getThreadMXBean();
  private static int wrong = 0;

  private static long made() {
    return THREADS.getThreadAllocatedBytes(Thread.currentThread().getId());
  }

  private static void most(String what, long bytes, long bound) {
    System.out.println(what + ": " + bytes + " bytes");
    if (bytes > bound) {
      wrong++;
      System.out.println("  more than " + bound);
    }
  }

  private static void fillWithTerms(GrownAlgebra a, int s) {
    a.clear(s);
    for (Model.Term t : Model.ALL) a.term(s, 1, t.a(), t.b(), t.c());
  }

  /** Seven dense generators with many relations. */
  private static void makeDense(GrownAlgebra a) {
    int[][] leads = {{1, 0, 0}, {0, 1, 0}, {2, 0, 0}, {1, 1, 0}, {0, 2, 0}, {3, 0, 0}};
    for (int[] l : leads) {
      a.clear(0);
      for (Model.Term t : Model.ALL) if (t.degree() < l[0] + l[1] + l[2]) a.term(0, 1, t.a(), t.b(), t.c());
      a.term(0, 1, l[0], l[1], l[2]);
      a.generator(0);
    }
  }

  public static void main(String[] args) {
    made();
    new GrownAlgebra();
    long before = made();
    GrownAlgebra a = new GrownAlgebra();
    most("a new object", made() - before, 8000 * 8);
    before = made();
    makeDense(a);
    fillWithTerms(a, 1);
    a.keep();
    a.wouldGrow(6, 0);
    a.subduct(1);
    a.complete(6);
    most("what is made when it is first needed", made() - before, 20000 * 8);
    before = made();
    // With those ahead some 510: an object is used for no more than 512.
    for (int i = 0; i < 375; i++) dearest(a, i);
    most("375 of the dearest calls", made() - before, 10000 * 8);
    if (wrong != 0) System.exit(1);
  }

  private static void dearest(GrownAlgebra a, int i) {
    switch (i % 10) {
      case 0: a.back(); break;
      case 1: a.complete(6); break;
      case 2: a.wouldGrow(6, 0); break;
      case 3: a.subduct(1); break;
      case 4: a.open(6); break;
      case 5: a.certified(6); break;
      case 6: a.relations(6); break;
      case 7: a.witness(2); break;
      case 8: a.keep(); break;
      default: a.through(3); break;
    }
  }
}
