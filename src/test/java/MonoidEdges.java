/** Part 3 of "Terms", and promises 26 to 34: the monoid, lattices. */
final class MonoidEdges {
  private static final String FOUR = "gens(0,x;y;xy;x^2) ";

  private MonoidEdges() {
  }

  static void all() {
    lattices();
    rows();
    row();
    monoid();
    root();
    rank();
    lattice();
    span();
    inSpan();
    index();
  }

  // ---- part 3

  private static void lattices() {
    Edge.part(3, "its PIVOT, is above 0", """
        gens(0,x^3;x^2) lattice(0,0)=2 lattice(0,1)=-3 span(0,0)=1 drop()=1 drop()=0 gens(0,y^2;xy^3) span(0,0)=1 span(1,1)=2 drop()=1 drop()=0 gens(0,xy^3;x^2y) span(0,0)=1 span(1,1)=5""");
    Edge.part(3, "each PIVOT stands further on than the one ahead", """
        gens(0,x^2z;x^4z) rank(1)=2 span(0,0)=2 span(0,1)=0 span(0,2)=0 span(1,0)=0 span(1,1)=0 span(1,2)=1 drop()=1 drop()=0 gens(0,z^2;y^3z) span(0,0)=0 span(0,1)=3 span(1,1)=0 span(1,2)=2""");
    Edge.part(3, "in the place of a PIVOT the rows ahead have numbers of 0 or more, less than the PIVOT", """
        gens(0,xy^3;y^3) span(0,0)=1 span(0,1)=0 span(1,1)=3 drop()=1 drop()=0 gens(0,xy^2;y^3) span(0,1)=2 drop()=1 drop()=0 gens(0,xy^4;y^3) span(0,1)=1
        drop()=1 drop()=0 gens(0,xyz^3;yz^2;z^3) span(0,0)=1 span(0,1)=0 span(0,2)=1 span(1,1)=1 span(1,2)=2 span(2,2)=3""");
    Edge.part(3, "in the place of a PIVOT the rows ahead have numbers of 0 or more, less than the PIVOT", FOUR + """
        lattice(0,0)=1 lattice(0,1)=1 lattice(0,2)=-1 lattice(0,3)=0 lattice(1,0)=0 lattice(1,1)=2 lattice(1,2)=-2 lattice(1,3)=1""");
    Edge.part(3, "RANK: how many rows the BASIS has", "rank(0)=0 rank(1)=0 gens(0,x) rank(0)=0 rank(1)=1 gens(0,x^2) rank(0)=1 rank(1)=1 gens(0,y) rank(0)=1 rank(1)=2 gens(0,z) rank(1)=3 gens(0,xyz) rank(0)=2 rank(1)=3");
    Edge.part(3, "all whole sums of some rows of whole numbers", "gens(0,x^2;x^5) rank(0)=1 lattice(0,0)=5 lattice(0,1)=-2 span(0,0)=1 inSpan(1,0,0)=1");
    Edge.part(3, "if its RANK is 3, else 0", "index()=0 gens(0,x^2) index()=0 gens(0,y^3) index()=0 gens(0,xy) index()=0 gens(0,z^5) index()=5 drop()=3 index()=0");
  }

  // ---- promises 26 to 34

  private static void rows() {
    Edge.promise(26, "How many ROWS a TERM has", """
        rows(0,0,0)=1 rows(1,0,0)=0 gens(0,x) rows(0,0,0)=1 rows(6,0,0)=1 rows(0,6,0)=0 gens(0,y;z;x^2;y^2;z^2;xy) rows(0,0,0)=1 rows(2,2,2)=12 rows(0,0,6)=4""");
    Edge.promise(26, "BAD: no such TERM", """
        rows(6,0,0)=0 rows(0,6,0)=0 rows(0,0,6)=0 rows(7,0,0)=BAD rows(0,7,0)=BAD rows(0,0,7)=BAD rows(-1,0,0)=BAD rows(0,-1,0)=BAD rows(0,0,-1)=BAD rows(2,2,2)=0 rows(2,2,3)=BAD rows(7,-1,0)=BAD rows(MIN,MIN,0)=BAD""");
  }

  private static void row() {
    Edge.promise(27, "NONE: it has not so many", FOUR + """
        rows(2,0,0)=2 row(2,0,0,0,0)=2 row(2,0,0,1,3)=1 row(2,0,0,2,0)=NONE row(2,0,0,-1,0)=NONE row(2,0,0,MAX,0)=NONE row(2,0,0,MIN,0)=NONE
        rows(0,0,1)=0 row(0,0,1,0,0)=NONE row(0,0,0,0,0)=0 row(0,0,0,1,0)=NONE row(6,0,0,3,3)=3 row(6,0,0,4,3)=NONE""");
    Edge.promise(27, "BAD: no such TERM, GENERATOR", FOUR + """
        row(2,0,0,1,3)=1 row(2,0,0,1,4)=BAD row(2,0,0,1,-1)=BAD row(2,0,0,1,MAX)=BAD row(2,0,0,1,MIN)=BAD row(7,0,0,0,0)=BAD row(-1,0,0,0,0)=BAD row(0,-1,0,0,0)=BAD row(0,0,-1,0,0)=BAD
        row(2,2,3,0,0)=BAD row(0,0,6,0,0)=NONE row(0,0,7,0,0)=BAD row(2,0,0,9,4)=BAD row(0,0,1,0,4)=BAD drop()=3 row(2,0,0,0,3)=BAD""");
    Edge.promise(27, "BAD: no such TERM, GENERATOR", "row(0,0,0,0,0)=BAD row(0,0,0,0,-1)=BAD gens(0,x;y;z;x^2;y^2;z^2;xy) row(1,1,0,1,6)=1 row(1,1,0,0,6)=0 row(1,1,0,0,7)=BAD");
  }

  private static void monoid() {
    Edge.promise(28, "DEGREE d (0 .. 6)", "gens(0,x) monoid(0,0)=1 monoid(6,0)=1 monoid(6,1)=27 monoid(0,1)=0 monoid(-1,0)=BAD monoid(7,0)=BAD monoid(MIN,0)=BAD monoid(MAX,0)=BAD");
    Edge.promise(28, "what 0 how many have a ROW, 1 how many have none, 2 how many ROWS they have together", """
        monoid(0,0)=1 monoid(0,1)=0 monoid(0,2)=1 monoid(6,0)=0 monoid(6,1)=28 monoid(6,2)=0 monoid(0,-1)=BAD monoid(0,3)=BAD monoid(0,MIN)=BAD monoid(0,MAX)=BAD
        gens(0,x;y;z) monoid(6,0)=28 monoid(6,1)=0 monoid(6,2)=28 gens(0,x^2;y^2;z^2;xy) monoid(2,2)=10 monoid(6,2)=168 monoid(6,0)=28""");
  }

  private static void root() {
    Edge.promise(29, "The least n (1 .. 6)", "gens(0,x^6) root(1,0,0)=6 root(6,0,0)=1 root(2,0,0)=3 root(3,0,0)=2 gens(0,x^5) root(1,0,0)=5 gens(0,x^4) root(1,0,0)=4 gens(0,x) root(1,0,0)=1");
    Edge.promise(29, "of DEGREE 6 at most", "gens(0,x^4;x^6) root(2,0,0)=2 drop()=1 root(2,0,0)=2 root(3,0,0)=NONE drop()=0 gens(0,x^6) root(4,0,0)=NONE root(5,0,0)=NONE gens(0,y^3z^3) root(0,1,1)=3");
    Edge.promise(29, "NONE", "root(1,0,0)=NONE root(0,0,0)=1 gens(0,x^2) root(0,1,0)=NONE root(1,1,0)=NONE root(1,0,0)=2 root(0,0,6)=NONE");
    Edge.promise(29, "BAD: no such TERM", "gens(0,x;y;z) root(6,0,0)=1 root(7,0,0)=BAD root(0,0,7)=BAD root(0,7,0)=BAD root(-1,0,0)=BAD root(0,-1,0)=BAD root(0,0,-1)=BAD root(2,2,2)=1 root(3,2,2)=BAD");
  }

  private static void rank() {
    Edge.promise(30, "(what 0), of THE SPAN (1)", FOUR + "rank(0)=2 rank(1)=2 rank(-1)=BAD rank(2)=BAD rank(MIN)=BAD rank(MAX)=BAD");
    Edge.promise(30, "RANK", "rank(0)=0 rank(1)=0 gens(0,x;x^2;x^3;x^4;x^5;x^6;y) rank(0)=5 rank(1)=2 drop()=6 rank(0)=5 rank(1)=1");
    Edge.promise(30, "BAD", "rank(2)=BAD rank(-1)=BAD");
  }

  private static void lattice() {
    Edge.promise(31, "NO: there is none such", FOUR + """
        lattice(0,0)=1 lattice(1,3)=1 lattice(2,0)=NO lattice(-1,0)=NO lattice(MIN,0)=NO lattice(MAX,0)=NO lattice(0,4)=NO lattice(0,-1)=NO lattice(0,MIN)=NO lattice(0,MAX)=NO""");
    Edge.promise(31, "NO: there is none such", "lattice(0,0)=NO gens(0,x;y;z) lattice(0,0)=NO gens(0,xyz) lattice(0,0)=1 lattice(0,3)=-1 lattice(1,0)=NO lattice(0,4)=NO drop()=3 lattice(0,0)=NO");
    Edge.promise(31, "Row i of the BASIS of THE LATTICE OF RELATIONS", """
        gens(0,z;z^2;yz^3) rank(0)=1 lattice(0,0)=2 lattice(0,1)=-1 lattice(0,2)=0 span(0,1)=1 span(0,2)=0 span(1,2)=1 gens(0,z^3) rank(0)=2 lattice(0,0)=1 lattice(0,1)=1 lattice(0,2)=0 lattice(0,3)=-1
        lattice(1,0)=0 lattice(1,1)=3 lattice(1,3)=-2 inSpan(5,6,7)=0 part(2,0,1)=-1 part(2,0,0)=2 gens(0,x) rank(0)=2 lattice(0,0)=1 lattice(0,1)=1 lattice(0,2)=0 lattice(0,3)=-1 lattice(0,4)=0 lattice(1,1)=3 lattice(1,3)=-2 lattice(1,4)=0 rank(1)=3
        part(2,0,0)=2 drop()=4 drop()=3 gens(0,x) rank(0)=1 lattice(0,0)=2 lattice(0,1)=-1 lattice(0,2)=0 lattice(0,3)=0""");
  }

  private static void span() {
    Edge.promise(32, "number j (0 .. 2)", "gens(0,x^3yz^2) span(0,0)=3 span(0,1)=1 span(0,2)=2 span(0,3)=NO span(0,-1)=NO span(0,MIN)=NO span(0,MAX)=NO");
    Edge.promise(32, "NO: there is none such", "span(0,0)=NO gens(0,x) span(0,0)=1 span(1,0)=NO gens(0,y) span(1,1)=1 span(2,2)=NO gens(0,z) span(2,2)=1 span(3,0)=NO span(-1,0)=NO span(MIN,0)=NO span(MAX,0)=NO");
  }

  private static void inSpan() {
    Edge.promise(33, "x, y, z (-999 .. 999 each)", """
        gens(0,x;y;z) inSpan(999,999,999)=1 inSpan(-999,-999,-999)=1 inSpan(1000,0,0)=BAD inSpan(0,1000,0)=BAD inSpan(0,0,1000)=BAD inSpan(-1000,0,0)=BAD inSpan(0,-1000,0)=BAD inSpan(0,0,-1000)=BAD
        inSpan(MIN,0,0)=BAD inSpan(0,MAX,0)=BAD inSpan(0,0,MIN)=BAD""");
    Edge.promise(33, "1 if x, y, z", """
        inSpan(0,0,0)=1 inSpan(1,0,0)=0 inSpan(0,0,-1)=0 inSpan(1000,0,0)=BAD gens(0,x^2y) inSpan(2,1,0)=1 inSpan(-2,-1,0)=1 inSpan(1,0,0)=0 inSpan(0,1,0)=0 inSpan(2,0,0)=0 inSpan(2,1,1)=0
        inSpan(4,2,0)=1 inSpan(3,1,0)=0 inSpan(998,499,0)=1 inSpan(-998,-499,0)=1 gens(0,z^4) inSpan(2,1,4)=1 inSpan(2,1,-2)=0 inSpan(0,0,-996)=1 inSpan(0,0,999)=0""");
  }

  private static void index() {
    Edge.promise(34, "INDEX", "index()=0 gens(0,x^6;y^6) index()=0 gens(0,z^6) index()=216 gens(0,z) index()=36 gens(0,x^5) index()=6 gens(0,y^5) index()=1");
  }
}
