/** What completion is, in part 2 of "Terms", and promises 35 to 42. */
final class RelationEdges {
  /** x and x^2 + y have a relation to 2, by which y would grow, if there were not seven. */
  private static final String SEVEN = "gens(0,x;x^2+y;y^3;y^4;y^5;z^3;z^4) ";

  private RelationEdges() {
  }

  static void all() {
    completion();
    roughAndFull();
    completionWide();
    relations();
    relation();
    part();
    difference();
    open();
    complete();
    wouldGrow();
    certified();
    certifiedWide();
  }

  // ---- part 2

  private static void completion() {
    Edge.part(2, "of all RELATIONS TO d by the GENERATORS that are there as the ROUND begins", "gens(0,x+y;xy;xy^2) wouldGrow(6,2)=4 wouldGrow(5,2)=3 wouldGrow(4,2)=2 wouldGrow(3,2)=1 complete(6)=0 wouldGrow(6,2)=1");
    Edge.part(2, "by all GENERATORS that are there by then", "gens(0,x;x^2+y;x^3+y) wouldGrow(3,0)=4 wouldGrow(3,2)=2 complete(3)=0 count(0)=4 ofGenerator(3,6)=2");
    Edge.part(2, "It ends WELL by a ROUND in which none grew.", "complete(1)=0 wouldGrow(6,2)=1 gens(0,x) complete(6)=0 gens(0,x^2) complete(6)=0 count(0)=2 wouldGrow(6,2)=1 gens(0,x^3+y) wouldGrow(6,2)=2 complete(6)=0 count(0)=4");
    Edge.part(2, "what is LEFT, times e, is a GENERATOR more, GROWN", """
        gens(0,x;x^2-y+1) complete(2)=0 give(2,0)=1 coefficient(0,0,1,0)=1 drop()=2 drop()=1 gens(0,x^2+y+1) complete(2)=0 give(2,0)=1 coefficient(0,0,1,0)=1
        drop()=2 drop()=1 gens(0,x^2+y-5z) complete(2)=0 give(2,0)=2 coefficient(0,0,1,0)=1 coefficient(0,0,0,1)=-5""");
    Edge.part(2, "What grew stays, however it ends.", """
        gens(0,x;x^2+z;x^3+2y) complete(3)=2 count(0)=4 count(1)=1 ofGenerator(3,2)=1 complete(3)=2 count(0)=4 drop()=3 gens(0,y^3;y^4;y^5) wouldGrow(3,0)=7 wouldGrow(3,1)=2 complete(3)=2 count(0)=7 ofGenerator(6,2)=1""");
    Edge.part(2, "What grew stays, however it ends.", "gens(0,x;x^2+z;x^3+y;y^4;y^5;z^4) complete(3)=1 count(0)=7 count(1)=1 ofGenerator(6,2)=1 complete(3)=1 drop()=6 complete(2)=0 count(0)=7");
  }

  private static void roughAndFull() {
    Edge.part(2, "it ends ROUGH, if e isn't 1 or -1", """
        gens(0,x;x^2+y) wouldGrow(2,1)=0 drop()=1 gens(0,x^2-y) wouldGrow(2,1)=0 drop()=1 gens(0,x^2+2y) wouldGrow(2,1)=2 complete(2)=2 drop()=1 gens(0,x^2-2y) complete(2)=2 count(0)=2
        drop()=1 gens(0,x^2+y-2z) complete(2)=0 drop()=2 drop()=1 gens(0,x^2+2y+z) complete(2)=2 drop()=1 gens(0,x^2+999) complete(2)=0 count(0)=2""");
    Edge.part(2, "it ends ROUGH, if e isn't 1 or -1; else FULL, if there are 7 GENERATORS", SEVEN + """
        complete(2)=1 count(0)=7 drop()=6 complete(2)=0 count(0)=7 count(1)=1 complete(2)=0 drop()=6 drop()=5 drop()=4 drop()=3 drop()=2 drop()=1
        gens(0,x^2+2y;y^3;y^4;y^5;z^3;z^4) complete(2)=2 wouldGrow(2,0)=7 wouldGrow(2,1)=2""");
    Edge.part(2, "else FULL, if there are 7 GENERATORS", "gens(0,x;x^2;x^3;x^4;x^5;x^6;y) complete(6)=0 wouldGrow(6,1)=0 count(0)=7");
  }

  private static void completionWide() {
    Edge.part(2, "It ends WIDE by the first DIFFERENCE or SUBDUCTION that is WIDE", """
        gens(0,x;x^2+z;x^3) drop()=2 big(1,L,0,0,0) put(0,x^3) big(1,L-1,0,0,0) term(1,1,3,0,0)=2 generator(1)=2 wouldGrow(2,1)=0 wouldGrow(3,1)=3 wouldGrow(3,0)=4 wouldGrow(3,2)=1
        complete(3)=3 count(0)=4 ofGenerator(3,2)=1""");
    Edge.part(2, "It ends WIDE by the first DIFFERENCE or SUBDUCTION that is WIDE", """
        gens(0,x+1) big(1,L/3+2,1,0,0) term(1,1,2,0,0)=2 generator(1)=1 complete(2)=0 drop()=1 term(1,1,1,0,0)=2 generator(1)=1 difference(2,0,2)=2 complete(2)=3 wouldGrow(2,0)=2""");
  }

  // ---- promises 35 to 42

  private static void relations() {
    Edge.promise(35, "RELATIONS TO d", "gens(0,x;x^2;y^6;y^3) relations(1)=0 relations(2)=1 relations(5)=1 relations(6)=2 relations(0)=BAD relations(7)=BAD relations(-1)=BAD relations(MIN)=BAD relations(MAX)=BAD");
    Edge.promise(35, "BAD", "relations(0)=BAD relations(1)=0 relations(6)=0 relations(7)=BAD");
  }

  private static void relation() {
    Edge.promise(36, "in LEFT (side 0), in RIGHT (1)", "gens(0,x;x^2) relation(2,0,0,0)=2 relation(2,0,1,0)=0 relation(2,0,1,1)=1 relation(2,0,-1,0)=BAD relation(2,0,2,0)=BAD relation(2,0,MIN,0)=BAD relation(2,0,MAX,0)=BAD");
    Edge.promise(36, "BAD: d, side, g", """
        relation(6,0,0,0)=BAD gens(0,x;x^6) relation(6,0,1,1)=1 relation(6,0,1,2)=BAD relation(6,0,1,-1)=BAD relation(6,0,1,MIN)=BAD relation(6,0,1,MAX)=BAD relation(0,0,0,0)=BAD
        relation(7,0,0,0)=BAD relation(-1,0,0,0)=BAD relation(MIN,0,0,0)=BAD relation(MAX,0,0,0)=BAD relation(0,9,0,0)=BAD relation(6,9,2,0)=BAD relation(6,9,0,2)=BAD""");
    Edge.promise(36, "NONE: there is none such", """
        gens(0,x;x^6) relation(6,0,0,0)=6 relation(6,1,0,0)=NONE relation(6,-1,0,0)=NONE relation(6,MIN,0,0)=NONE relation(6,MAX,0,0)=NONE relation(5,0,0,0)=NONE relation(1,0,0,0)=NONE
        drop()=1 relation(6,0,0,0)=NONE""");
  }

  private static void part() {
    Edge.promise(37, "how often row i is in it", "gens(0,x;y;xy;x^2) relations(2)=2 part(2,0,0)=1 part(2,0,1)=0 part(2,1,0)=2 part(2,1,1)=-1 drop()=3 gens(0,z) part(2,0,0)=1 part(2,0,1)=NO");
    Edge.promise(37, "LEFT less RIGHT, is a whole sum of the rows of the BASIS", """
        gens(0,x^2;x;x^3) relations(3)=2 lattice(0,1)=1 lattice(0,2)=-1 lattice(1,1)=3 lattice(1,2)=-1 part(2,0,0)=1 part(2,0,1)=-1 part(3,1,0)=1 part(3,1,1)=0
        drop()=2 gens(0,y) rank(0)=1 lattice(0,0)=1 lattice(0,1)=-2 lattice(0,2)=0 part(2,0,0)=1 part(2,0,1)=NO drop()=2 drop()=1 drop()=0
        gens(0,y;x;x^2;z;z^2) rank(0)=2 lattice(0,0)=0 lattice(0,1)=2 lattice(1,3)=2 part(2,0,0)=0 part(2,0,1)=1 part(2,1,0)=1 part(2,1,1)=0""");
    Edge.promise(37, "NO: d, r, i", """
        part(1,0,0)=NO gens(0,x;x^2) part(2,0,0)=1 part(6,0,0)=1 part(1,0,0)=NO part(0,0,0)=NO part(7,0,0)=NO part(-1,0,0)=NO part(MIN,0,0)=NO part(MAX,0,0)=NO
        part(2,1,0)=NO part(2,-1,0)=NO part(2,MIN,0)=NO part(2,MAX,0)=NO part(2,0,1)=NO part(2,0,-1)=NO part(2,0,MIN)=NO part(2,0,MAX)=NO""");
  }

  private static void difference() {
    Edge.promise(38, "BAD: d, slot", """
        put(0,z) gens(1,x;x^2+y) difference(2,0,0)=1 difference(2,0,5)=1 difference(2,0,-1)=BAD difference(2,0,6)=BAD difference(2,0,MIN)=BAD difference(2,0,MAX)=BAD
        difference(0,0,0)=BAD difference(7,0,0)=BAD difference(-1,0,0)=BAD difference(MIN,0,0)=BAD difference(MAX,0,0)=BAD difference(2,9,6)=BAD difference(7,9,0)=BAD""");
    Edge.promise(38, "NONE: there is none such", """
        put(0,z) difference(6,0,0)=NONE gens(1,x;x^2+y) difference(1,0,0)=NONE difference(2,1,0)=NONE difference(2,-1,0)=NONE difference(2,MIN,0)=NONE difference(2,MAX,0)=NONE difference(6,0,0)=1""");
    Edge.promise(38, "WIDE", """
        gens(0,x) put(2,z) big(1,L-2,0,1,0) term(1,1,2,0,0)=2 generator(1)=1 difference(2,0,3)=1 coefficient(3,0,1,0)=-9223372036854775805 drop()=1
        big(1,L-1,0,1,0) term(1,1,2,0,0)=2 generator(1)=1 difference(2,0,2)=WIDE difference(1,0,2)=NONE difference(2,0,6)=BAD""");
    Edge.promise(38, "WIDE", """
        big(0,3037000498,0,0,0) term(0,1,1,0,0)=2 generator(0)=0 gens(1,x^2) difference(2,0,3)=2 drop()=1 drop()=0 term(0,1,0,0,0)=2 generator(0)=0 generator(1)=1 difference(2,0,3)=WIDE drop()=1 drop()=0
        big(0,4294967295,0,0,0) term(0,1,1,0,0)=2 generator(0)=0 generator(1)=1 difference(2,0,3)=WIDE open(2)=WIDE complete(2)=3""");
    Edge.promise(38, "how many TERMS it has", "gens(0,x;x^2) put(1,y) difference(2,0,1)=0 norm(1)=0 drop()=1 gens(0,x^2+y+z+1) difference(2,0,1)=3");
  }

  private static void open() {
    Edge.promise(39, "BAD", "gens(0,x;x^2+y) open(1)=NONE open(2)=0 open(6)=0 open(0)=BAD open(7)=BAD open(-1)=BAD open(MIN)=BAD open(MAX)=BAD");
    Edge.promise(39, "The first RELATION of those TO d that doesn't CLOSE", "gens(0,x;y;y^2;xy;x^2+z) relations(2)=3 open(2)=2 open(1)=NONE gens(0,x^3+z^2) relations(3)=4 open(3)=2 drop()=5 drop()=4 drop()=3 gens(0,xy+z;x^2+z) open(2)=1 drop()=4 drop()=3 drop()=2 gens(0,y^2+z) open(6)=0");
    Edge.promise(39, "NONE: all CLOSE", "open(6)=NONE gens(0,x) open(6)=NONE gens(0,x^2;x^3) open(6)=NONE gens(0,y;y^6+z) open(5)=NONE open(6)=2");
    Edge.promise(39, "WIDE: its DIFFERENCE or SUBDUCTION, or that of one ahead of it, is", """
        gens(0,x) big(1,L-1,0,1,0) term(1,1,2,0,0)=2 generator(1)=1 open(2)=WIDE open(1)=NONE gens(0,z;z^2+y) relations(2)=2 open(2)=0 drop()=3 drop()=2 gens(0,x^3+y) open(3)=WIDE""");
    Edge.promise(39, "WIDE: its DIFFERENCE or SUBDUCTION", """
        gens(0,x+1) big(1,L/3+2,1,0,0) term(1,1,2,0,0)=2 generator(1)=1 open(2)=NONE drop()=1 term(1,1,1,0,0)=2 generator(1)=1 difference(2,0,2)=2 open(2)=WIDE""");
  }

  private static void complete() {
    Edge.promise(40, "BAD", "gens(0,x;x^2+y) complete(0)=BAD complete(7)=BAD complete(-1)=BAD complete(MIN)=BAD complete(MAX)=BAD complete(1)=0 count(0)=2 complete(6)=0 count(0)=3");
    Edge.promise(40, "0 if it ends WELL, 1 FULL, 2 ROUGH, 3 WIDE", SEVEN + "complete(2)=1 complete(1)=0 drop()=6 complete(2)=0 drop()=6 drop()=5 drop()=4 drop()=3 drop()=2 drop()=1 gens(0,x^2+2y) complete(2)=2");
    Edge.promise(40, "3 WIDE", "gens(0,x) big(1,L-1,0,1,0) term(1,1,2,0,0)=2 generator(1)=1 complete(2)=3 complete(1)=0 complete(0)=BAD");
    Edge.promise(40, "COMPLETION to d, truly", "gens(0,x+y;xy;xy^2) complete(3)=0 count(0)=3 complete(4)=0 count(0)=4 complete(5)=0 count(0)=5 complete(6)=0 count(0)=6 count(1)=3 complete(6)=0 count(0)=6");
  }

  private static void wouldGrow() {
    Edge.promise(41, "BAD", """
        gens(0,x;x^2+y) wouldGrow(2,0)=3 wouldGrow(2,1)=0 wouldGrow(2,2)=2 wouldGrow(2,-1)=BAD wouldGrow(2,3)=BAD wouldGrow(2,MIN)=BAD wouldGrow(2,MAX)=BAD
        wouldGrow(0,0)=BAD wouldGrow(7,0)=BAD wouldGrow(-1,0)=BAD wouldGrow(MIN,0)=BAD wouldGrow(MAX,0)=BAD wouldGrow(1,0)=2 wouldGrow(6,0)=3""");
    Edge.promise(41, "in thought", """
        gens(0,x+y;xy;xy^2) subduct(0)=1 keep()=3 wouldGrow(6,0)=6 count(0)=3 rows(1,3,0)=0 rank(0)=1 relations(6)=1 open(6)=0 count(6)=1 step(0,2)=1 put(1,xy^3) member(1)=0 monoid(6,2)=7
        closed()=1 complete(6)=0 count(0)=6 wouldGrow(6,0)=6 count(1)=3 ofGenerator(5,5)=3 drop()=5 wouldGrow(6,0)=6 count(0)=5""");
    Edge.promise(41, "2 how many ROUNDS were begun", "wouldGrow(6,2)=1 gens(0,x;x^2+y) wouldGrow(1,2)=1 wouldGrow(2,2)=2 drop()=1 gens(0,x^2+2y) wouldGrow(2,2)=1 wouldGrow(2,1)=2 drop()=1 gens(0,x^2+y;x^4+2z) wouldGrow(2,2)=2 wouldGrow(4,2)=1");
    Edge.promise(41, "1 how it ends (as of complete())", SEVEN + "wouldGrow(2,1)=1 wouldGrow(2,0)=7 wouldGrow(2,2)=1 drop()=6 wouldGrow(2,1)=0 wouldGrow(2,0)=7 wouldGrow(2,2)=2 count(0)=6 generator(0)=6");
    Edge.promise(41, "1 how it ends", "gens(0,x) big(1,L-1,0,1,0) term(1,1,2,0,0)=2 generator(1)=1 wouldGrow(2,1)=3 wouldGrow(2,0)=2 wouldGrow(2,2)=1 wouldGrow(1,1)=0");
  }

  private static void certified() {
    Edge.promise(42, "BAD", "certified(1)=1 certified(6)=1 certified(0)=BAD certified(7)=BAD certified(-1)=BAD certified(MIN)=BAD certified(MAX)=BAD gens(0,x;x^2) certified(0)=BAD certified(7)=BAD");
    Edge.promise(42, "the RANK of THE LATTICE OF RELATIONS is 0; or it is 1", "certified(1)=1 gens(0,x^3;y^6) certified(1)=1 certified(6)=1 drop()=1 drop()=0 gens(0,x;y;z) certified(1)=1 gens(0,x^2) certified(1)=0 certified(2)=1 gens(0,y^2) certified(6)=0 drop()=4 gens(0,x^6) certified(6)=0");
    Edge.promise(42, "has a TERM of DEGREE d at most", """
        gens(0,x^2;x^3) certified(5)=0 certified(6)=1 certified(1)=0 drop()=1 drop()=0 gens(0,x;x^6) certified(5)=0 certified(6)=1 drop()=1 drop()=0 gens(0,x^3;x^4) certified(6)=0 drop()=1 drop()=0
        gens(0,x^5y;xy^5) certified(6)=1 gens(0,x^4y^2) certified(6)=0 drop()=2 drop()=1 gens(0,x) certified(1)=1""");
    Edge.promise(42, "leaves 0 by SUBDUCTION. Else 0", "gens(0,x;x^2+y) certified(2)=0 drop()=1 gens(0,x^2+1) certified(2)=1 certified(1)=0 drop()=1 gens(0,x^2+z) certified(6)=0 complete(2)=0 certified(2)=1");
    Edge.promise(42, "less that of the ROW of what is below 0, without signs", "gens(0,x^2+y^2;xy;y^2) lattice(0,0)=1 lattice(0,1)=-2 lattice(0,2)=1 certified(3)=0 certified(4)=1 drop()=2 gens(0,y^2+z) certified(4)=0");
  }

  private static void certifiedWide() {
    Edge.promise(42, "WIDE: the COSTS of these ROWS are above LARGEST together", """
        gens(0,x) big(1,L-2,0,1,0) term(1,1,2,0,0)=2 generator(1)=1 certified(2)=0 certified(1)=0 drop()=1 term(1,1,0,1,0)=2 generator(1)=1 certified(2)=WIDE certified(6)=WIDE certified(1)=0 certified(7)=BAD""");
    Edge.promise(42, "or the SUBDUCTION is (only if it comes to that)", """
        gens(0,x+1) big(1,L/3+2,1,0,0) term(1,1,2,0,0)=2 generator(1)=1 certified(2)=1 drop()=1 term(1,1,1,0,0)=2 generator(1)=1 certified(2)=WIDE certified(1)=0 gens(0,x^3) certified(2)=0 certified(6)=0""");
  }
}
