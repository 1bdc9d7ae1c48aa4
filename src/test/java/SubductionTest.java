/** Promises 43 to 46. */
public final class SubductionTest {
  /** x + y; y + z; z + 1. */
  private static final String LADDER = """
      term(0,1,1,0,0)=1 term(0,1,0,1,0)=2 generator(0)=0 clear(0)=2 term(0,1,0,1,0)=1 term(0,1,0,0,1)=2 generator(0)=1
      clear(0)=2 term(0,1,0,0,1)=1 term(0,1,0,0,0)=2 generator(0)=2\s""";

  public static void main(String[] args) {
    subduct();
    member();
    step();
    witness();
    Script.end();
  }

  private static void subduct() {
    Script.promise(43, "what is left", GeneratorsTest.FAMILY_1 + """
        term(3,1,2,0,0)=1 subduct(3)=2 lead(3,4)=2 coefficient(3,0,2,0)=-1 coefficient(3,0,0,2)=-1 coefficient(3,0,1,1)=0 count(2)=2
        subduct(4)=0 count(2)=0 count(6)=1 subduct(-1)=BAD subduct(6)=BAD count(6)=1""");
    Script.promise(43, "terms without a row stay, lesser ones go on", GeneratorsTest.FAMILY_0 + """
        term(3,2,0,3,0)=1 term(3,5,2,0,0)=2 term(3,7,0,0,0)=3 subduct(3)=3 lead(3,4)=2 coefficient(3,0,3,0)=2 coefficient(3,0,2,0)=-5
        step(0,-1)=5 step(0,0)=2 step(1,-1)=-10 step(1,1)=1 step(2,-1)=7""");
    Script.promise(43, "the first row", MonoidTest.FOUR + "term(1,1,2,2,0)=1 subduct(1)=1 step(0,0)=2 step(0,1)=2 step(0,2)=0 step(0,3)=0");
    Script.promise(43, "by the order", """
        order(2)=0 term(0,1,0,0,1)=1 term(0,1,1,0,0)=2 generator(0)=0 term(1,1,1,0,0)=1 subduct(1)=0 lead(1,0)=1
        term(2,1,0,0,1)=1 subduct(2)=1 coefficient(2,1,0,0)=-1""");
    Script.promise(43, "constants always go", "term(0,9,0,0,0)=1 term(0,1,1,0,0)=2 subduct(0)=1 lead(0,4)=1 coefficient(0,1,0,0)=1 step(0,-1)=9 step(0,0)=0");
    Script.promise(43, "wide", LADDER + """
        term(2,4,0,1,1)=1 subduct(2)=5 count(2)=5 big(1,L/3,1,0,0) member(1)=1 subduct(1)=4 lead(1,4)=0 count(2)=4
        big(1,L/3+1,1,0,0) subduct(1)=WIDE coefficient(1,1,0,0)=L/3+1 count(2)=4 count(6)=1 step(0,0)=1 subduct(7)=BAD""");
    Script.promise(43, "84 steps", MonoidTest.terms(1, 0, 0, 0, 1, 0, 0, 0, 1) + """
        term(1,1,1,0,0)=1 term(1,1,0,1,0)=2 term(1,1,0,0,1)=3 term(1,1,0,0,0)=4 times(1,1)=10 add(2,1,1)=10 times(1,2)=35 times(1,2)=84
        subduct(1)=84 lead(1,4)=0 count(2)=84 step(83,-1)=1 step(84,-1)=NO step(0,0)=6 witness(3)=84 norm(3)=4096""");
  }

  private static void member() {
    Script.promise(44, "whether", GeneratorsTest.FAMILY_1 + """
        term(3,1,3,0,0)=1 member(3)=0 even(3)=3 member(3)=1 norm(3)=6 count(6)=0 member(5)=1 member(-1)=BAD member(6)=BAD""");
    Script.promise(44, "wide", LADDER + "big(1,L/3+1,1,0,0) member(1)=WIDE big(1,L/3,1,0,0) member(1)=1 coefficient(1,1,0,0)=L/3 count(6)=0");
    Script.promise(44, "wide by cost", """
        big(0,4294967296,0,0,0) term(0,1,1,0,0)=2 generator(0)=0 term(1,1,2,0,0)=1 member(1)=WIDE term(2,1,1,0,0)=1 member(2)=1 member(0)=1
        term(3,1,6,0,0)=1 member(3)=WIDE""");
    Script.promise(44, "wide by a cost far above", """
        big(0,4611686018427387903,0,0,0) term(0,1,1,0,0)=2 norm(0)=4611686018427387904 generator(0)=0
        term(1,1,2,0,0)=1 member(1)=WIDE clear(1)=1 term(1,1,3,0,0)=1 member(1)=WIDE clear(1)=1 term(1,1,4,0,0)=1 member(1)=WIDE
        clear(1)=1 term(1,1,5,0,0)=1 member(1)=WIDE clear(1)=1 term(1,1,6,0,0)=1 member(1)=WIDE subduct(1)=WIDE lead(1,0)=6""");
    Script.promise(44, "the norm as it is then", """
        term(0,1,1,0,0)=1 generator(0)=0 term(1,1,1,0,0)=1 big(2,L-2,0,1,0) add(1,2,1)=2 member(1)=0
        big(2,L-1,0,1,0) clear(1)=2 term(1,1,1,0,0)=1 add(1,2,1)=2 norm(1)=L member(1)=WIDE""");
  }

  private static void step() {
    Script.promise(45, "each", GeneratorsTest.FAMILY_1 + """
        step(0,-1)=NO term(3,1,3,0,0)=1 even(3)=3 subduct(3)=3 step(0,-1)=2 step(0,0)=3 step(0,1)=0 step(0,3)=0 step(0,6)=0
        step(1,-1)=-6 step(1,0)=1 step(1,1)=1 step(2,-1)=6 step(2,2)=1 step(3,0)=NO step(-1,0)=NO step(0,7)=NO step(0,-2)=NO step(MAX,0)=NO""");
    Script.promise(45, "more generators, the same steps", GeneratorsTest.FAMILY_1 + """
        subduct(1)=1 step(0,1)=1 term(3,1,2,0,0)=1 generator(3)=3 count(6)=1 step(0,1)=1 step(0,3)=0 member(0)=1 step(0,1)=1""");
  }

  private static void witness() {
    Script.promise(46, "the sum", GeneratorsTest.FAMILY_1 + """
        witness(0)=NONE term(3,1,2,0,0)=1 subduct(3)=2 witness(4)=3 coefficient(4,2,0,0)=1 coefficient(4,0,2,0)=1 coefficient(4,1,1,0)=0
        witness(-1)=BAD witness(6)=BAD subduct(5)=0 witness(4)=0 norm(4)=0""");
    Script.promise(46, "wide", LADDER + """
        big(1,L/7,1,0,0) add(2,1,1)=1 subduct(1)=4 witness(3)=1 coefficient(3,1,0,0)=L/7
        big(1,L/7+1,1,0,0) subduct(1)=4 witness(3)=WIDE coefficient(3,1,0,0)=L/7 witness(6)=BAD""");
    Script.promise(46, "none behind back", GeneratorsTest.FAMILY_1 + "keep()=3 subduct(0)=1 back()=3 witness(0)=NONE count(6)=0");
  }
}
