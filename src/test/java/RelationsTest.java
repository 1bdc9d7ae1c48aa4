/** Promises 35 to 42. */
public final class RelationsTest {
  /** x^2 and x + A with A so great that the COST of (x + A)^2 is above LARGEST. */
  private static final String WIDE_DIFFERENCE = "big(0,4294967296,0,0,0) term(0,1,1,0,0)=2 generator(0)=0 term(1,1,2,0,0)=1 generator(1)=1 ";
  /** Seven, of which only x and x^2 + y have a relation to 2. */
  private static final String SEVEN = MonoidTest.terms(1, 0, 0, 0, 3, 0, 0, 4, 0, 0, 5, 0, 0, 0, 3, 0, 0, 4)
      + "term(1,1,2,0,0)=1 term(1,1,0,1,0)=2 generator(1)=6 ";

  public static void main(String[] args) {
    relations();
    relation();
    part();
    difference();
    open();
    complete();
    wouldGrow();
    certified();
    Script.end();
  }

  private static void relations() {
    Script.promise(35, "how many", MonoidTest.FOUR + "relations(1)=0 relations(2)=2 relations(3)=2 relations(6)=2 relations(0)=BAD relations(7)=BAD relations(-1)=BAD");
    Script.promise(35, "groups", GeneratorsTest.FAMILY_0 + "relations(3)=0 relations(4)=1 relations(5)=1 relations(6)=1");
    Script.promise(35, "more than two groups", MonoidTest.terms(2, 0, 0, 0, 2, 0, 1, 1, 0, 0, 0, 1, 1, 2, 0, 2, 2, 0, 4, 0, 0) + """
        relations(2)=0 relations(4)=3 relation(4,0,0,0)=1 relation(4,0,0,1)=1 relation(4,0,1,2)=2 relation(4,1,0,0)=1 relation(4,1,1,5)=1
        relation(4,1,1,2)=0 relation(4,2,0,0)=2 relation(4,2,1,6)=1 relation(4,3,0,0)=NONE""");
    Script.promise(35, "joined by a later row", MonoidTest.terms(1, 0, 0, 0, 1, 0, 1, 1, 0, 2, 0, 0, 0, 2, 0) + "relations(2)=3 rows(2,2,0)=6 relations(4)=3");
  }

  private static void relation() {
    // Of the rows of y^4 z^2 the last one joins the first two; the third one is a group of its own.
    Script.promise(36, "joined, and one behind them", MonoidTest.terms(0, 2, 2, 0, 4, 0, 0, 2, 1, 0, 0, 2, 0, 2, 0) + """
        relations(6)=3 relation(6,0,0,0)=1 relation(6,0,1,3)=1 relation(6,0,1,4)=1 relation(6,1,0,1)=1 relation(6,1,1,4)=2
        relation(6,2,0,0)=1 relation(6,2,0,4)=1 relation(6,2,1,0)=0 relation(6,2,1,1)=0 relation(6,2,1,2)=2 relation(6,2,1,3)=0""");
    Script.promise(36, "sides", MonoidTest.FOUR + """
        relation(2,0,0,0)=1 relation(2,0,0,1)=1 relation(2,0,0,2)=0 relation(2,0,1,0)=0 relation(2,0,1,2)=1 relation(2,0,1,3)=0
        relation(2,1,0,0)=2 relation(2,1,0,1)=0 relation(2,1,1,0)=0 relation(2,1,1,3)=1 relation(2,2,0,0)=NONE relation(2,-1,0,0)=NONE relation(1,0,0,0)=NONE
        relation(0,0,0,0)=BAD relation(7,0,0,0)=BAD relation(2,0,2,0)=BAD relation(2,0,-1,0)=BAD relation(2,0,0,4)=BAD relation(2,0,0,-1)=BAD relation(2,9,0,4)=BAD""");
    Script.promise(36, "by the order", "order(2)=0 " + MonoidTest.FOUR + "relation(2,0,0,0)=2 relation(2,0,1,3)=1 relation(2,1,0,0)=1 relation(2,1,1,2)=1");
  }

  private static void part() {
    Script.promise(37, "sums of the basis", MonoidTest.FOUR + """
        part(2,0,0)=1 part(2,0,1)=0 part(2,1,0)=2 part(2,1,1)=-1 part(2,0,2)=NO part(2,0,-1)=NO part(2,2,0)=NO part(2,-1,0)=NO part(1,0,0)=NO
        part(0,0,0)=NO part(7,0,0)=NO""");
    Script.promise(37, "none", GeneratorsTest.FAMILY_1 + "part(6,0,0)=NO");
  }

  private static void difference() {
    Script.promise(38, "put", GeneratorsTest.FAMILY_0 + """
        term(3,1,0,0,6)=1 difference(4,0,3)=1 coefficient(3,1,3,0)=1 difference(4,1,3)=NONE difference(3,0,3)=NONE difference(4,-1,3)=NONE
        difference(0,0,3)=BAD difference(7,0,3)=BAD difference(4,0,6)=BAD difference(4,0,-1)=BAD difference(4,9,6)=BAD coefficient(3,1,3,0)=1""");
    Script.promise(38, "nothing is left", GeneratorsTest.FAMILY_4 + "term(5,1,0,0,0)=1 difference(4,0,5)=0 norm(5)=0");
    Script.promise(38, "wide", WIDE_DIFFERENCE + "difference(2,0,3)=WIDE norm(3)=0 difference(1,0,3)=NONE");
    // The costs: (A + 1)^2 and 1, with A + 1 = 3037000499 at the greatest.
    Script.promise(38, "just not wide", """
        big(0,3037000498,0,0,0) term(0,1,1,0,0)=2 generator(0)=0 term(1,1,2,0,0)=1 generator(1)=1 difference(2,0,3)=2
        coefficient(3,1,0,0)=6074000996 coefficient(3,0,0,0)=9223372024852248004""");
    Script.promise(38, "just wide", "big(0,3037000499,0,0,0) term(0,1,1,0,0)=2 generator(0)=0 term(1,1,2,0,0)=1 generator(1)=1 difference(2,0,3)=WIDE");
    Script.promise(38, "the sum of both", """
        term(0,1,1,0,0)=1 generator(0)=0 big(1,L-2,0,0,0) term(1,1,2,0,0)=2 generator(1)=1 difference(2,0,3)=1 coefficient(3,0,0,0)=-9223372036854775805
        drop()=1 big(1,L-1,0,0,0) term(1,1,2,0,0)=2 generator(1)=1 difference(2,0,3)=WIDE""");
  }

  private static void open() {
    Script.promise(39, "the first", GeneratorsTest.FAMILY_0 + "open(3)=NONE open(4)=0 open(6)=0 open(0)=BAD open(7)=BAD complete(6)=0 open(6)=NONE count(0)=6");
    Script.promise(39, "the second", MonoidTest.terms(1, 0, 0, 0, 1, 0, 1, 1, 0) + "term(1,1,2,0,0)=1 term(1,1,0,0,1)=2 generator(1)=3 open(1)=NONE open(2)=1");
    Script.promise(39, "wide", WIDE_DIFFERENCE + "open(1)=NONE open(2)=WIDE");
    Script.promise(39, "open ahead of wide", "term(4,1,0,1,0)=1 generator(4)=0 term(5,1,0,2,0)=1 term(5,1,0,0,1)=2 generator(5)=1 "
        + WIDE_DIFFERENCE.replace("generator(1)=1", "generator(1)=3").replace("generator(0)=0", "generator(0)=2") + "relations(2)=2 open(2)=0");
    Script.promise(39, "subduction wide", """
        term(0,1,1,0,0)=1 term(0,1,0,0,0)=2 generator(0)=0 big(1,L/4,1,0,0) term(1,1,2,0,0)=2 generator(1)=1 open(2)=NONE
        drop()=1 big(1,L/3+2,1,0,0) term(1,1,2,0,0)=2 generator(1)=1 open(2)=NONE complete(2)=0 wouldGrow(2,1)=0 certified(2)=1
        drop()=1 big(1,L/3+3,1,0,0) term(1,1,2,0,0)=2 generator(1)=1 difference(2,0,3)=2 open(2)=WIDE complete(2)=3 wouldGrow(2,1)=3 certified(2)=WIDE""");
  }

  private static void complete() {
    Script.promise(40, "well", GeneratorsTest.FAMILY_0 + "complete(3)=0 count(0)=3 complete(4)=0 count(0)=4 complete(5)=0 count(0)=5 complete(6)=0 count(0)=6 count(1)=3 open(6)=NONE");
    Script.promise(40, "wrong", GeneratorsTest.FAMILY_0 + "complete(0)=BAD complete(7)=BAD complete(-1)=BAD count(0)=3");
    Script.promise(40, "e is -1", GeneratorsTest.STEPPING + "complete(2)=0 give(2,5)=1 coefficient(5,0,1,0)=1 norm(5)=1 closed()=1");
    Script.promise(40, "full", SEVEN + "relations(2)=1 complete(2)=1 count(0)=7 count(1)=0");
    Script.promise(40, "full, not if it closes", SEVEN + "drop()=6 clear(1)=2 term(1,1,2,0,0)=1 generator(1)=6 complete(2)=0");
    Script.promise(40, "rough", "term(0,1,1,0,0)=1 generator(0)=0 term(1,1,2,0,0)=1 term(1,2,0,1,0)=2 generator(1)=1 complete(1)=0 complete(2)=2 count(0)=2");
    Script.promise(40, "rough ahead of full", SEVEN + "drop()=6 term(1,1,0,1,0)=2 generator(1)=6 complete(2)=2");
    Script.promise(40, "wide", WIDE_DIFFERENCE + "complete(1)=0 complete(2)=3 count(0)=2");
    // The relation of y^2 comes first, and z, which grows by it, takes apart what that of x^3 leaves.
    Script.promise(40, "what grew helps", """
        term(0,1,1,0,0)=1 generator(0)=0 term(1,1,0,1,0)=1 generator(1)=1 term(2,1,0,2,0)=1 term(2,1,0,0,1)=2 generator(2)=2
        term(3,1,3,0,0)=1 term(3,2,0,0,2)=2 generator(3)=3 complete(3)=0 count(0)=5 ofGenerator(4,2)=1""");
    Script.promise(40, "what grew stays when it ends rough", """
        term(0,1,1,0,0)=1 generator(0)=0 term(1,1,2,0,0)=1 term(1,1,0,0,1)=2 generator(1)=1
        term(3,1,3,0,0)=1 term(3,2,0,1,0)=2 generator(3)=2 complete(3)=2 count(0)=4 count(1)=1 ofGenerator(3,2)=1 made(3,0,-1)=-1""");
    Script.promise(40, "what grows in a round counts in it", MonoidTest.terms(1, 0, 0) + """
        term(1,1,2,0,0)=1 term(1,1,0,1,0)=2 generator(1)=1 term(2,1,3,0,0)=1 term(2,1,0,1,0)=2 generator(2)=2
        wouldGrow(3,0)=4 wouldGrow(3,2)=2 complete(3)=0 ofGenerator(3,6)=2""");
    Script.promise(40, "the witness stays", GeneratorsTest.FAMILY_0 + "subduct(0)=1 complete(6)=0 count(6)=1 step(0,0)=1 witness(5)=2");
  }

  private static void wouldGrow() {
    Script.promise(41, "in thought", GeneratorsTest.FAMILY_0 + """
        wouldGrow(6,0)=6 wouldGrow(6,1)=0 wouldGrow(6,2)=4 wouldGrow(5,0)=5 wouldGrow(5,2)=3 wouldGrow(3,0)=3 wouldGrow(3,2)=1
        count(0)=3 count(1)=0 rows(1,3,0)=0 rank(0)=1 relations(6)=1 open(6)=0 give(3,0)=BAD ofGenerator(3,0)=BAD made(3,0,0)=NO closed()=1
        wouldGrow(0,0)=BAD wouldGrow(7,0)=BAD wouldGrow(6,3)=BAD wouldGrow(6,-1)=BAD""");
    Script.promise(41, "ends", SEVEN + "wouldGrow(2,0)=7 wouldGrow(2,1)=1 wouldGrow(2,2)=1");
    Script.promise(41, "wide", WIDE_DIFFERENCE + "wouldGrow(2,0)=2 wouldGrow(2,1)=3 wouldGrow(2,2)=1 wouldGrow(1,1)=0");
    Script.promise(41, "rough", """
        term(0,1,1,0,0)=1 generator(0)=0 term(1,1,2,0,0)=1 term(1,1,0,0,1)=2 generator(1)=1
        term(3,1,3,0,0)=1 term(3,2,0,1,0)=2 generator(3)=2 wouldGrow(3,0)=4 wouldGrow(3,1)=2 wouldGrow(3,2)=1 count(0)=3""");
    Script.promise(41, "the witness stays", GeneratorsTest.FAMILY_0 + "subduct(1)=1 wouldGrow(6,0)=6 count(6)=1 step(0,1)=1");
  }

  private static void certified() {
    Script.promise(42, "rank 0", GeneratorsTest.FAMILY_1 + "certified(1)=1 certified(6)=1 certified(0)=BAD certified(7)=BAD");
    Script.promise(42, "rank 1", MonoidTest.terms(2, 0, 0, 3, 0, 0) + "certified(6)=1 certified(5)=0 certified(1)=0");
    Script.promise(42, "rank 1, deep", MonoidTest.terms(5, 0, 0, 6, 0, 0) + "rank(0)=1 certified(6)=0");
    Script.promise(42, "rank 1, something is left", GeneratorsTest.FAMILY_0 + "certified(3)=0 certified(4)=0 certified(6)=0");
    Script.promise(42, "rank 2", MonoidTest.FOUR + "certified(6)=0");
    Script.promise(42, "wide", WIDE_DIFFERENCE + "certified(1)=0 certified(2)=WIDE certified(7)=BAD");
    // (x + A)^2 - x^2 leaves 2 A x + A^2, and a step of 2 A times x + A.
    Script.promise(42, "just not wide", """
        big(0,1700000000,0,0,0) term(0,1,1,0,0)=2 generator(0)=0 term(1,1,2,0,0)=1 generator(1)=1 certified(2)=1
        drop()=1 drop()=0 big(0,1800000000,0,0,0) term(0,1,1,0,0)=2 generator(0)=0 generator(1)=1 difference(2,0,5)=2 certified(2)=WIDE""");
    Script.promise(42, "less what is below 0", """
        term(0,1,1,0,0)=1 generator(0)=0 term(1,1,2,0,0)=1 term(1,3,1,0,0)=2 term(1,-2,0,0,0)=3 generator(1)=1 certified(2)=1 certified(1)=0""");
    Script.promise(42, "rank 1 that is no relation of groups", MonoidTest.terms(1, 1, 0, 2, 2, 0, 0, 0, 1) + "rank(0)=1 certified(3)=0 certified(4)=1");
  }
}
