/** Promises 26 to 34. */
public final class MonoidTest {
  /** x, y, x y, x^2. */
  static final String FOUR = """
      term(0,1,1,0,0)=1 generator(0)=0 clear(0)=1 term(0,1,0,1,0)=1 generator(0)=1 clear(0)=1 term(0,1,1,1,0)=1 generator(0)=2
      clear(0)=1 term(0,1,2,0,0)=1 generator(0)=3\s""";
  private static final String ONE_TERM = "clear(0)=1 term(0,1,%d,%d,%d)=1 generator(0)=%d ";

  public static void main(String[] args) {
    rows();
    row();
    monoid();
    root();
    lattices();
    Script.end();
  }

  /** GENERATORS that are TERMS. */
  static String terms(int... exponents) {
    StringBuilder text = new StringBuilder("term(0,1,0,0,0)=1 ");
    for (int g = 0; 3 * g < exponents.length; g++) {
      text.append(String.format(ONE_TERM, exponents[3 * g], exponents[3 * g + 1], exponents[3 * g + 2], g));
    }
    return text.toString();
  }

  private static void rows() {
    Script.promise(26, "how many", FOUR + """
        rows(0,0,0)=1 rows(1,0,0)=1 rows(2,0,0)=2 rows(1,1,0)=2 rows(2,1,0)=3 rows(2,2,0)=4 rows(4,0,0)=3 rows(0,0,1)=0 rows(6,0,0)=4
        rows(7,0,0)=BAD rows(-1,0,0)=BAD rows(0,-1,0)=BAD rows(0,0,-1)=BAD rows(3,3,1)=BAD rows(MAX,MAX,2)=BAD""");
  }

  private static void row() {
    Script.promise(27, "their order", FOUR + """
        row(2,2,0,0,0)=2 row(2,2,0,0,1)=2 row(2,2,0,0,2)=0 row(2,2,0,1,0)=1 row(2,2,0,1,1)=1 row(2,2,0,1,2)=1
        row(2,2,0,2,0)=0 row(2,2,0,2,1)=2 row(2,2,0,2,3)=1 row(2,2,0,3,0)=0 row(2,2,0,3,1)=0 row(2,2,0,3,2)=2 row(2,2,0,4,0)=NONE
        row(2,2,0,-1,0)=NONE row(2,2,0,MAX,0)=NONE row(2,2,0,0,4)=BAD row(2,2,0,0,-1)=BAD row(2,2,0,9,4)=BAD row(7,0,0,0,0)=BAD row(0,0,1,0,0)=NONE
        row(0,0,0,0,0)=0 row(0,0,0,0,3)=0 row(0,0,0,1,3)=NONE row(3,-1,0,0,0)=BAD""");
    Script.promise(27, "without generators", "rows(0,0,0)=1 row(0,0,0,0,0)=BAD");
    Script.promise(27, "powers up to six", terms(1, 0, 0, 0, 1, 0, 0, 0, 1) + "row(6,0,0,0,0)=6 row(0,6,0,0,1)=6 row(1,2,3,0,2)=3");
  }

  private static void monoid() {
    Script.promise(28, "each", GeneratorsTest.FAMILY_4 + """
        monoid(0,0)=1 monoid(0,1)=0 monoid(0,2)=1 monoid(1,0)=1 monoid(1,1)=2 monoid(1,2)=1 monoid(4,0)=9 monoid(4,1)=6 monoid(4,2)=10
        monoid(6,0)=16 monoid(6,1)=12 monoid(-1,0)=BAD monoid(7,0)=BAD monoid(3,3)=BAD monoid(3,-1)=BAD""");
    Script.promise(28, "without generators", "monoid(0,0)=1 monoid(0,2)=1 monoid(1,0)=0 monoid(1,1)=3 monoid(1,2)=0 monoid(6,1)=28");
  }

  private static void root() {
    Script.promise(29, "the least", terms(2, 0, 0, 0, 3, 0, 1, 0, 1) + """
        root(1,0,0)=2 root(0,1,0)=3 root(2,0,0)=1 root(3,0,0)=2 root(0,0,1)=NONE root(1,1,0)=NONE root(1,0,1)=1 root(2,0,1)=2 root(0,2,0)=3 root(0,0,0)=1
        root(0,4,0)=NONE root(7,0,0)=BAD root(-1,0,0)=BAD root(0,0,-1)=BAD root(0,MIN,0)=BAD""");
    Script.promise(29, "six", terms(6, 0, 0) + "root(1,0,0)=6 root(2,0,0)=3 root(3,0,0)=2 root(4,0,0)=NONE root(6,0,0)=1 root(0,1,0)=NONE");
  }

  private static void lattices() {
    Script.promise(30, "ranks", FOUR + "rank(0)=2 rank(1)=2 rank(-1)=BAD rank(2)=BAD drop()=3 rank(0)=1 rank(1)=2 drop()=2 rank(0)=0 drop()=1 rank(1)=1 drop()=0 rank(0)=0 rank(1)=0");
    Script.promise(31, "basis", FOUR + """
        lattice(0,0)=1 lattice(0,1)=1 lattice(0,2)=-1 lattice(0,3)=0 lattice(1,0)=0 lattice(1,1)=2 lattice(1,2)=-2 lattice(1,3)=1
        lattice(2,0)=NO lattice(-1,0)=NO lattice(0,4)=NO lattice(0,-1)=NO""");
    Script.promise(31, "x^2, x^3", terms(2, 0, 0, 3, 0, 0) + "rank(0)=1 lattice(0,0)=3 lattice(0,1)=-2 lattice(1,0)=NO");
    Script.promise(31, "x^6, x^5, x^4", terms(6, 0, 0, 5, 0, 0, 4, 0, 0) + """
        rank(0)=2 lattice(0,0)=1 lattice(0,1)=2 lattice(0,2)=-4 lattice(1,0)=0 lattice(1,1)=4 lattice(1,2)=-5""");
    Script.promise(32, "basis", terms(1, 4, 0, 0, 3, 0) + """
        rank(1)=2 span(0,0)=1 span(0,1)=1 span(0,2)=0 span(1,0)=0 span(1,1)=3 span(1,2)=0 span(2,0)=NO span(-1,0)=NO span(0,3)=NO span(0,-1)=NO""");
    Script.promise(32, "a gap", terms(2, 0, 1, 4, 0, 1) + "rank(1)=2 span(0,0)=2 span(0,1)=0 span(0,2)=0 span(1,0)=0 span(1,1)=0 span(1,2)=1");
    Script.promise(32, "below", terms(1, 0, 5, 0, 0, 3) + "span(0,0)=1 span(0,2)=2 span(1,2)=3");
    Script.promise(33, "in", terms(2, 0, 0, 1, 1, 0, 0, 0, 3) + """
        inSpan(0,0,0)=1 inSpan(1,1,0)=1 inSpan(1,-1,0)=1 inSpan(1,0,0)=0 inSpan(-999,999,-999)=1 inSpan(998,999,0)=0 inSpan(0,0,1)=0 inSpan(0,0,-3)=1
        inSpan(1000,0,0)=BAD inSpan(-1000,0,0)=BAD inSpan(0,1000,0)=BAD inSpan(0,0,-1000)=BAD inSpan(MIN,0,0)=BAD""");
    Script.promise(33, "not the whole room", terms(1, 1, 0) + "inSpan(0,1,0)=0 inSpan(2,2,0)=1 inSpan(2,2,1)=0 inSpan(2,3,0)=0 inSpan(-5,-5,0)=1");
    Script.promise(33, "nothing", "inSpan(0,0,0)=1 inSpan(0,0,1)=0");
    Script.promise(34, "index", terms(2, 0, 0, 1, 1, 0, 0, 0, 3) + "index()=6 drop()=2 index()=0");
    Script.promise(34, "the greatest", terms(6, 0, 0, 0, 6, 0, 0, 0, 6) + "index()=216");
    Script.promise(34, "rank 3 by more than three", terms(2, 0, 0, 0, 2, 0, 0, 0, 2, 1, 1, 0, 1, 0, 1) + "rank(0)=2 index()=2");
  }
}
