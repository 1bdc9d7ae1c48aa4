/** Promises 43 to 46: subduction. */
final class SubductionEdges {
  private SubductionEdges() {
  }

  static void all() {
    subduct();
    member();
    step();
    witness();
  }

  private static void subduct() {
    Edge.promise(43, "BAD", "put(0,x) put(5,7) subduct(0)=0 subduct(5)=1 subduct(-1)=BAD subduct(6)=BAD subduct(MIN)=BAD subduct(MAX)=BAD count(2)=1 step(0,-1)=7");
    Edge.promise(43, "the STEPS are the WITNESS: how many STEPS", """
        subduct(0)=0 count(6)=1 count(2)=0 put(0,x) subduct(0)=0 lead(0,4)=1 put(0,x+3) subduct(0)=1 lead(0,4)=1 count(2)=1 gens(1,x) subduct(0)=1 lead(0,4)=0 count(2)=1 step(0,-1)=1 subduct(0)=0 count(2)=0""");
    Edge.promise(43, "the STEPS are the WITNESS: how many STEPS", """
        gens(0,x;y;z) put(1,x+y+z+1) put(2,x+y+z+1) times(1,2)=10 times(1,2)=20 times(1,1)=84 subduct(1)=84 count(2)=84 step(83,0)=0 step(83,-1)=1 step(84,-1)=NO step(0,0)=6 lead(1,4)=0""");
    Edge.promise(43, "WIDE", """
        put(0,4) subduct(0)=1 gens(1,x+y) big(0,L/3,1,0,0) subduct(0)=1 coefficient(0,0,1,0)=-3074457345618258602 count(2)=1 step(0,-1)=L/3
        big(0,L/3+1,1,0,0) subduct(0)=WIDE subduct(6)=BAD step(0,-1)=L/3 witness(5)=2 coefficient(0,1,0,0)=L/3+1""");
    Edge.promise(43, "WIDE", """
        big(0,4294967295,0,0,0) term(0,1,1,0,0)=2 generator(0)=0 put(1,x) subduct(1)=2 put(1,x^2) subduct(1)=WIDE put(1,x^4) subduct(1)=WIDE put(1,x^6) subduct(1)=WIDE put(1,x^3+y) subduct(1)=WIDE""");
  }

  private static void member() {
    Edge.promise(44, "BAD", "put(0,x) put(5,7) member(0)=0 member(5)=1 member(-1)=BAD member(6)=BAD member(MIN)=BAD member(MAX)=BAD");
    Edge.promise(44, "1 if 0 is LEFT of SLOT s by SUBDUCTION, else 0", "member(0)=1 put(0,1) member(0)=1 put(0,x) member(0)=0 gens(1,x^2) member(0)=0 put(0,x^6-x^4+1) member(0)=1 put(0,x^6+x^5) member(0)=0 count(6)=0 norm(0)=2");
    Edge.promise(44, "WIDE", "gens(1,x+y) big(0,L/3,1,0,0) member(0)=0 big(0,L/3+1,1,0,0) member(0)=WIDE member(6)=BAD big(0,L/2+1,0,0,0) member(0)=WIDE big(0,L/2,0,0,0) member(0)=1 big(0,L,0,0,1) member(0)=0");
  }

  private static void step() {
    Edge.promise(45, "what -1 the coefficient, 0 .. 6 the POWER of that GENERATOR (0: there is none such)", """
        gens(0,x;y) put(1,3x^2y) subduct(1)=1 step(0,-1)=3 step(0,0)=2 step(0,1)=1 step(0,2)=0 step(0,6)=0 step(0,7)=NO step(0,-2)=NO step(0,MIN)=NO step(0,MAX)=NO""");
    Edge.promise(45, "what -1 the coefficient, 0 .. 6 the POWER of that GENERATOR", "gens(0,y;z;xy;xz;yz;z^2;x) put(1,x^6-y^6) subduct(1)=2 step(0,6)=6 step(0,7)=NO step(1,-1)=-1 step(1,0)=6 step(1,6)=0");
    Edge.promise(45, "NO: what, there is none such", """
        step(0,-1)=NO step(0,0)=NO put(0,5) subduct(0)=1 step(0,-1)=5 step(1,-1)=NO step(-1,-1)=NO step(MIN,-1)=NO step(MAX,-1)=NO step(0,7)=NO subduct(1)=0 step(0,-1)=NO step(0,0)=NO""");
    Edge.promise(45, "NO: what, there is none such", "gens(0,x) put(0,x+4) subduct(0)=2 step(1,-1)=4 step(2,-1)=NO keep()=1 back()=1 step(0,-1)=NO step(1,-1)=NO");
  }

  private static void witness() {
    Edge.promise(46, "BAD; NONE: there is no WITNESS", """
        witness(0)=NONE witness(6)=BAD witness(-1)=BAD put(0,4) put(5,x) subduct(0)=1 witness(5)=1 coefficient(5,0,0,0)=4 witness(0)=1 witness(6)=BAD witness(-1)=BAD witness(MIN)=BAD witness(MAX)=BAD
        coefficient(0,0,0,0)=4 gens(1,x) drop()=0 witness(0)=NONE witness(6)=BAD""");
    Edge.promise(46, "how many TERMS it has", "put(1,x+y) subduct(2)=0 witness(1)=0 norm(1)=0 gens(0,x+y;y) put(1,x-y+z) subduct(1)=2 witness(3)=2 coefficient(3,1,0,0)=1 coefficient(3,0,1,0)=-1 coefficient(3,0,0,1)=0");
    Edge.promise(46, "WIDE: the coefficients without signs, each times its COST, are above LARGEST together", """
        gens(0,x+y;y) big(1,L/3,1,0,0) add(2,1,1)=1 subduct(1)=2 step(1,-1)=-3074457345618258602 witness(1)=1 coefficient(1,1,0,0)=L/3 add(1,2,-1)=0 count(2)=2
        big(1,L/3,1,0,0) term(1,1,0,0,1)=2 term(1,1,0,0,0)=3 subduct(1)=WIDE count(2)=2""");
    Edge.promise(46, "WIDE: the coefficients without signs, each times its COST, are above LARGEST together", """
        gens(0,x+y;y+z;z+1) big(1,L/7,1,0,0) subduct(1)=4 witness(2)=1 norm(2)=L/7 big(1,L/7+1,1,0,0) subduct(1)=4 witness(2)=WIDE norm(2)=L/7 witness(6)=BAD""");
  }
}
