/** Promises 18 to 25. */
public final class GeneratorsTest {
  /** x + y; x y; x y^2, which grows to x y^3, x y^4, x y^5. */
  static final String FAMILY_0 = "family(0)=3 generator(0)=0 generator(1)=1 generator(2)=2 ";
  static final String FAMILY_1 = "family(1)=3 generator(0)=0 generator(1)=1 generator(2)=2 ";
  static final String FAMILY_4 = "family(4)=4 generator(0)=0 generator(1)=1 generator(2)=2 generator(3)=3 ";
  /** x, x^2 + y + x: the relation leaves -y behind a step. */
  static final String STEPPING = "term(0,1,1,0,0)=1 generator(0)=0 term(1,1,2,0,0)=1 term(1,1,0,1,0)=2 term(1,1,1,0,0)=3 generator(1)=1 ";

  public static void main(String[] args) {
    generator();
    give();
    ofGenerator();
    drop();
    made();
    grown();
    grownAgain();
    closed();
    through();
    Script.end();
  }

  private static void generator() {
    Script.promise(18, "what can be one", """
        generator(0)=STATE term(0,2,1,0,0)=1 generator(0)=STATE term(0,-3,1,0,0)=1 generator(0)=STATE term(0,2,1,0,0)=1 generator(0)=0
        term(1,1,0,0,0)=1 generator(1)=STATE term(1,1,0,1,0)=2 generator(1)=1 generator(1)=STATE generator(0)=STATE
        term(2,1,0,1,0)=1 term(2,5,0,0,1)=2 generator(2)=STATE term(2,1,0,1,1)=3 generator(2)=2 count(0)=3 count(1)=0
        generator(-1)=BAD generator(6)=BAD""");
    Script.promise(18, "by the order", """
        term(0,2,1,0,0)=1 term(0,1,0,0,1)=2 generator(0)=STATE order(2)=0 generator(0)=0 ofGenerator(0,2)=1 ofGenerator(0,0)=0
        term(1,1,0,0,1)=1 generator(1)=STATE""");
    Script.promise(18, "it stays what it was", """
        term(0,1,1,0,0)=1 generator(0)=0 clear(0)=1 generator(0)=STATE give(0,3)=1 coefficient(3,1,0,0)=1""");
    Script.promise(18, "seven", """
        term(0,1,1,0,0)=1 generator(0)=0 clear(0)=1 term(0,1,0,1,0)=1 generator(0)=1 clear(0)=1 term(0,1,0,0,1)=1 generator(0)=2
        clear(0)=1 term(0,1,2,0,0)=1 generator(0)=3 clear(0)=1 term(0,1,0,2,0)=1 generator(0)=4 clear(0)=1 term(0,1,0,0,2)=1 generator(0)=5
        clear(0)=1 term(0,1,1,1,0)=1 generator(0)=6 generator(0)=STATE clear(0)=1 generator(0)=STATE term(0,1,0,0,0)=1 generator(0)=STATE
        term(0,1,3,0,0)=2 generator(0)=FULL term(0,1,3,0,0)=2 generator(0)=STATE generator(6)=BAD count(0)=7
        monoid(6,2)=168 monoid(5,2)=91 monoid(4,2)=49 monoid(3,2)=22 monoid(2,2)=10 monoid(1,2)=3""");
  }

  private static void give() {
    Script.promise(19, "gives", FAMILY_0 + """
        give(0,5)=2 coefficient(5,1,0,0)=1 coefficient(5,0,1,0)=1 give(2,5)=1 coefficient(5,1,2,0)=1 lead(5,4)=1
        give(3,0)=BAD give(-1,0)=BAD give(0,6)=BAD give(0,-1)=BAD complete(4)=0 give(3,0)=1 coefficient(0,1,3,0)=1""");
  }

  private static void ofGenerator() {
    Script.promise(20, "first ones", FAMILY_1 + """
        ofGenerator(1,0)=1 ofGenerator(1,1)=1 ofGenerator(1,2)=0 ofGenerator(1,3)=2 ofGenerator(1,4)=0 ofGenerator(1,5)=0 ofGenerator(1,6)=0
        ofGenerator(1,7)=0 ofGenerator(1,8)=3 ofGenerator(2,2)=1 ofGenerator(2,8)=1 ofGenerator(1,9)=BAD ofGenerator(1,-1)=BAD
        ofGenerator(3,0)=BAD ofGenerator(-1,0)=BAD""");
    Script.promise(20, "grown ones", FAMILY_0 + """
        complete(6)=0 count(0)=6 ofGenerator(3,1)=3 ofGenerator(3,4)=1 ofGenerator(3,5)=1 ofGenerator(3,6)=2 ofGenerator(4,1)=4 ofGenerator(4,5)=2
        ofGenerator(5,1)=5 ofGenerator(5,3)=6 ofGenerator(5,5)=3 ofGenerator(5,6)=2 ofGenerator(2,5)=0 ofGenerator(2,6)=0 ofGenerator(5,8)=1""");
    Script.promise(20, "steps are parts", STEPPING + """
        complete(2)=0 count(0)=3 ofGenerator(2,0)=0 ofGenerator(2,1)=1 ofGenerator(2,6)=3 ofGenerator(2,5)=1 ofGenerator(2,8)=1""");
    Script.promise(20, "the height is by those in its parts alone", """
        term(0,1,1,0,0)=1 generator(0)=0 term(1,1,2,0,0)=1 term(1,1,0,1,0)=2 generator(1)=1 term(2,1,3,0,0)=1 term(2,1,0,0,1)=2 generator(2)=2
        complete(3)=0 count(0)=5 ofGenerator(3,1)=1 ofGenerator(3,5)=1 ofGenerator(4,2)=1 ofGenerator(4,5)=1 ofGenerator(4,6)=2""");
    Script.promise(20, "another row", """
        term(0,1,1,0,0)=1 generator(0)=0 term(1,1,2,0,0)=1 generator(1)=1 term(2,1,0,3,0)=1 generator(2)=2
        ofGenerator(0,7)=0 ofGenerator(1,7)=1 ofGenerator(2,7)=0""");
  }

  private static void drop() {
    Script.promise(21, "the last one", FAMILY_0 + """
        drop()=2 give(2,0)=BAD rows(1,2,0)=0 rank(0)=0 give(1,0)=1 drop()=1 drop()=0 drop()=STATE count(0)=0 rank(1)=0 closed()=63""");
    Script.promise(21, "the witness is gone", FAMILY_1 + """
        subduct(0)=1 count(6)=1 drop()=2 count(6)=0 count(2)=0 step(0,-1)=NO witness(0)=NONE""");
    Script.promise(21, "refused, the witness stays", "term(0,3,0,0,0)=1 subduct(0)=1 drop()=STATE count(6)=1 step(0,-1)=3");
    Script.promise(21, "grown ones, too", FAMILY_0 + "complete(4)=0 count(1)=1 drop()=3 count(1)=0 ofGenerator(2,4)=0 family(0)=3 term(5,1,0,0,1)=1 generator(5)=3 ofGenerator(3,4)=0 ofGenerator(3,6)=0 made(3,0,-1)=NO");
  }

  private static void made() {
    Script.promise(22, "parts", STEPPING + """
        complete(2)=0 made(2,0,-1)=-1 made(2,0,0)=2 made(2,0,1)=0 made(2,0,2)=0 made(2,0,6)=0
        made(2,1,-1)=1 made(2,1,0)=0 made(2,1,1)=1 made(2,2,-1)=-1 made(2,2,0)=1 made(2,2,1)=0
        made(2,3,-1)=NO made(2,-1,-1)=NO made(2,0,7)=NO made(2,0,-2)=NO made(1,0,-1)=NO made(0,0,0)=NO made(3,0,0)=NO made(-1,0,0)=NO""");
    Script.promise(22, "a constant among the steps", """
        term(0,1,1,0,0)=1 generator(0)=0 term(1,1,2,0,0)=1 term(1,1,0,1,0)=2 term(1,-4,0,0,0)=3 generator(1)=1 complete(2)=0
        ofGenerator(2,6)=3 made(2,2,-1)=4 made(2,2,0)=0 made(2,2,1)=0 give(2,5)=1 coefficient(5,0,1,0)=1""");
  }

  private static void grown() {
    Script.promise(23, "worths", FAMILY_0 + """
        complete(6)=0 grown(0,2,3,5,1000)=5 grown(2,2,3,5,1000)=18 grown(3,2,3,5,1000)=54 grown(4,2,3,5,1000)=162 grown(5,2,3,5,1000)=486
        grown(5,2,-3,5,1000)=514 grown(5,2,3,5,2)=0 grown(5,1,1,0,1000000)=1 grown(3,MIN,1,0,1000)=352
        grown(5,2,3,5,1)=NO grown(5,2,3,5,1000001)=NO grown(6,2,3,5,7)=NO grown(-1,2,3,5,7)=NO grown(5,2,3,5,0)=NO""");
  }

  private static void grownAgain() {
    Script.promise(23, "grown again, of fewer parts", STEPPING + """
        complete(2)=0 ofGenerator(2,6)=3 drop()=2 drop()=1 clear(1)=3 term(1,1,2,0,0)=1 term(1,1,0,1,0)=2 generator(1)=1 complete(2)=0
        ofGenerator(2,6)=2 grown(2,3,5,7,100)=5 made(2,2,-1)=NO""");
  }

  private static void closed() {
    Script.promise(24, "turns", """
        closed()=63 term(0,1,1,0,0)=1 generator(0)=0 closed()=3 clear(0)=1 term(0,1,0,1,0)=1 generator(0)=1 closed()=5
        clear(0)=1 term(0,1,0,0,1)=1 generator(0)=2 closed()=63 clear(0)=1 term(0,1,2,1,0)=1 generator(0)=3 closed()=1""");
    Script.promise(24, "cyclic", "family(3)=4 generator(0)=0 generator(3)=1 closed()=25");
    Script.promise(24, "the whole polynomial counts", """
        term(0,1,1,0,0)=1 term(0,1,0,0,0)=2 generator(0)=0 term(1,1,0,1,0)=1 generator(1)=1 closed()=1""");
  }

  private static void through() {
    Script.promise(25, "put", FAMILY_1 + """
        term(3,2,1,0,0)=1 term(3,-1,0,1,0)=2 term(3,4,0,0,0)=3 through(3)=7 coefficient(3,1,0,0)=2 coefficient(3,1,1,0)=-1 coefficient(3,0,0,0)=4
        clear(3)=7 term(3,1,2,0,0)=1 through(3)=6 coefficient(3,1,1,0)=2 coefficient(3,2,0,0)=1 clear(3)=6 through(3)=0""");
    Script.promise(25, "refused", """
        through(-1)=BAD through(6)=BAD through(0)=STATE family(1)=3 generator(0)=0 generator(1)=1 through(3)=STATE through(6)=BAD
        generator(2)=2 term(3,1,0,0,2)=1 through(3)=1 clear(3)=1 term(3,1,0,0,2)=1 term(3,1,1,0,2)=2 through(3)=DEEP lead(3,4)=2
        clear(3)=2 term(3,1,0,3,0)=1 through(3)=10 clear(3)=10 term(3,1,0,4,0)=1 through(3)=DEEP through(6)=BAD""");
    Script.promise(25, "wide", """
        term(0,1,1,0,0)=1 term(0,1,0,1,0)=2 generator(0)=0 clear(0)=2 term(0,1,0,1,0)=1 generator(0)=1 clear(0)=1 term(0,1,0,0,1)=1 generator(0)=2
        big(1,L/2,1,0,0) through(1)=2 norm(1)=9223372036854775806 big(1,L/2+1,1,0,0) through(1)=WIDE coefficient(1,1,0,0)=L/2+1
        big(1,L/2,1,0,0) term(1,1,0,1,0)=2 through(1)=2 coefficient(1,0,1,0)=L/2+1 big(1,L/2,1,0,0) term(1,2,0,1,0)=2 through(1)=WIDE
        term(1,-1,0,1,0)=2 term(1,1,6,0,0)=3 through(1)=WIDE big(1,L,0,0,1) through(1)=1 norm(1)=L term(2,1,6,0,0)=1 through(2)=7""");
    Script.promise(25, "deep ahead of wide", """
        term(0,1,2,0,0)=1 term(0,1,0,1,0)=2 generator(0)=0 clear(0)=2 term(0,1,0,1,0)=1 generator(0)=1 clear(0)=1 term(0,1,0,0,1)=1 generator(0)=2
        big(1,L,1,0,0) through(1)=WIDE big(1,L-1,1,0,0) term(1,1,4,0,0)=2 through(1)=DEEP""");
    Script.promise(25, "a cost whose powers come to 0 in 64 bits", """
        big(0,4611686018427387903,0,0,0) term(0,1,1,0,0)=2 generator(0)=0 clear(0)=2 term(0,1,0,1,0)=1 generator(0)=1 clear(0)=1 term(0,1,0,0,1)=1 generator(0)=2
        term(1,1,2,0,0)=1 through(1)=WIDE clear(1)=1 term(1,1,3,0,0)=1 through(1)=WIDE clear(1)=1 term(1,1,4,0,0)=1 through(1)=WIDE
        clear(1)=1 term(1,1,5,0,0)=1 through(1)=WIDE clear(1)=1 term(1,1,6,0,0)=1 through(1)=WIDE""");
    Script.promise(25, "a cost far above", """
        big(0,L-1,0,0,0) term(0,1,1,0,0)=2 generator(0)=0 clear(0)=2 term(0,1,0,1,0)=1 generator(0)=1 clear(0)=1 term(0,1,0,0,1)=1 generator(0)=2
        term(1,1,6,0,0)=1 through(1)=WIDE term(2,1,1,0,0)=1 through(2)=2 norm(2)=L term(3,1,1,1,0)=1 through(3)=2 norm(3)=L
        term(4,1,1,0,0)=1 term(4,1,0,0,0)=2 through(4)=WIDE""");
  }
}
