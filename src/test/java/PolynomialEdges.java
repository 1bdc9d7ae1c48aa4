/** Part 1 of "Terms", and promises 1 to 17: polynomials. */
final class PolynomialEdges {
  private PolynomialEdges() {
  }

  static void all() {
    terms();
    normsAndSlots();
    orders();
    turnsAndFamilies();
    aNewObject();
    order();
    term();
    clear();
    add();
    times();
    turn();
    even();
    orbit();
    like();
    coefficient();
    lead();
    norm();
    at();
    poly();
    polyOneByOne();
    spread();
    family();
  }

  // ---- part 1

  private static void terms() {
    Edge.part(1, "none below 0", """
        term(0,1,0,0,0)=1 term(0,1,-1,0,0)=BAD term(0,1,0,-1,0)=BAD term(0,1,0,0,-1)=BAD
        term(0,1,7,-1,0)=BAD term(0,1,-1,7,0)=BAD term(0,1,0,-1,7)=BAD term(0,1,7,0,-1)=BAD
        term(0,1,-1,3,3)=BAD term(0,1,3,-1,3)=BAD term(0,1,3,3,-1)=BAD term(0,1,MIN,0,0)=BAD term(0,1,0,MIN,0)=BAD term(0,1,0,0,MIN)=BAD
        coefficient(0,-1,1,0)=NO coefficient(0,1,-1,0)=NO coefficient(0,0,1,-1)=NO
        rows(-1,1,0)=BAD rows(1,-1,0)=BAD rows(0,1,-1)=BAD root(-1,1,0)=BAD root(1,-1,0)=BAD root(0,1,-1)=BAD lead(0,4)=1""");
    Edge.part(1, "of DEGREE a + b + c, 6 at most", """
        term(0,1,6,0,0)=1 term(0,1,0,6,0)=2 term(0,1,0,0,6)=3 term(0,1,2,2,2)=4 term(0,1,5,1,0)=5 term(0,1,0,1,5)=6 term(0,1,1,2,3)=7
        term(0,1,7,0,0)=BAD term(0,1,0,7,0)=BAD term(0,1,0,0,7)=BAD term(0,1,3,2,2)=BAD term(0,1,2,3,2)=BAD term(0,1,2,2,3)=BAD
        term(0,1,6,1,0)=BAD term(0,1,6,0,1)=BAD term(0,1,0,6,1)=BAD term(0,1,1,6,0)=BAD term(0,1,1,0,6)=BAD term(0,1,0,1,6)=BAD
        coefficient(0,6,0,0)=1 coefficient(0,7,0,0)=NO coefficient(0,0,0,7)=NO coefficient(0,2,2,3)=NO lead(0,4)=7""");
    Edge.part(1, "of DEGREE a + b + c, 6 at most", """
        term(0,1,MAX,MAX,2)=BAD term(0,1,MAX,2,MAX)=BAD term(0,1,2,MAX,MAX)=BAD term(0,1,MAX,MAX,8)=BAD term(0,1,MIN,MIN,0)=BAD
        term(0,1,0,MIN,MIN)=BAD term(0,1,MIN,6,MIN)=BAD term(0,1,MAX,MIN,1)=BAD term(0,1,MAX,1,MIN)=BAD term(0,1,MAX,0,0)=BAD term(0,1,0,MAX,0)=BAD
        term(0,1,0,0,MAX)=BAD coefficient(0,MAX,MAX,2)=NO coefficient(0,MIN,MIN,0)=NO rows(MAX,MAX,2)=BAD rows(0,MIN,MIN)=BAD root(MAX,MAX,2)=BAD
        root(MIN,MIN,0)=BAD root(MIN,0,0)=BAD root(0,MAX,0)=BAD row(MAX,MAX,2,0,0)=BAD""");
    Edge.part(1, "(84 TERMS)", """
        put(0,x+y+z+1) put(1,x+y+z+1) times(0,1)=10 times(0,1)=20 times(0,0)=84 lead(0,4)=84 norm(0)=4096 clear(0)=84""");
    Edge.part(1, "its TERMS are those where that isn't 0", """
        term(0,5,1,2,3)=1 term(0,-4,1,2,3)=1 term(0,-1,1,2,3)=0 lead(0,4)=0 lead(0,0)=NONE norm(0)=0 like(5)=0""");
  }

  private static void normsAndSlots() {
    Edge.part(1, "its coefficients without signs, together", """
        norm(0)=0 put(0,3-4x) norm(0)=7 put(0,-3-4x) norm(0)=7 big(1,L-1,0,0,6) term(1,-1,0,0,0)=2 norm(1)=L add(2,1,-1)=2 norm(2)=L""");
    Edge.part(1, "LARGEST is 9223372036854775807", """
        big(0,9223372036854775806,1,0,0) term(0,1,0,0,0)=2 norm(0)=9223372036854775807 term(0,1,0,0,0)=WIDE term(0,-1,0,0,0)=WIDE
        term(0,1,1,0,0)=WIDE term(0,-1,1,0,0)=WIDE term(0,0,1,0,0)=2""");
    Edge.part(1, "SLOTS 0 .. 5", """
        term(0,1,1,0,0)=1 term(1,2,1,0,0)=1 term(2,3,1,0,0)=1 term(3,4,1,0,0)=1 term(4,5,1,0,0)=1 term(5,6,1,0,0)=1
        norm(0)=1 norm(1)=2 norm(2)=3 norm(3)=4 norm(4)=5 norm(5)=6 norm(6)=NO norm(-1)=NO term(6,1,1,0,0)=BAD term(-1,1,1,0,0)=BAD""");
    Edge.part(1, "(0 at first)", "norm(0)=0 norm(1)=0 norm(2)=0 norm(3)=0 norm(4)=0 norm(5)=0 like(5)=0 coefficient(5,0,0,0)=0");
  }

  private static void orders() {
    Edge.part(1, "ORDER (0 at first)", "count(3)=0 put(0,y^2+xz) lead(0,0)=1 order(0)=0");
    Edge.part(1, "that of greater DEGREE", """
        put(0,x+y+z+1) put(1,x+z^2) put(2,z+x^2) put(3,x^5+y^6) lead(0,3)=1 lead(1,3)=2 lead(2,3)=2 lead(3,3)=6
        order(1)=0 lead(0,3)=1 lead(1,3)=2 lead(2,3)=2 lead(3,3)=6 order(2)=1 lead(0,3)=1 lead(1,3)=2 lead(2,3)=2 lead(3,3)=6""");
    Edge.part(1, "by ORDER 0: of greater a, if a is the same of greater b", """
        put(0,y^2+xz) lead(0,0)=1 lead(0,2)=1 put(0,xz+xy) lead(0,1)=1 put(0,z^2+yz) lead(0,1)=1 put(0,y^5z+x^1z^5) lead(0,0)=1""");
    Edge.part(1, "by ORDER 1: of lesser c, if c is the same of lesser b", """
        order(1)=0 put(0,xz+y^2) lead(0,1)=2 put(0,xy+x^2) lead(0,0)=2 put(0,yz+xz) lead(0,0)=1 put(0,z^2+yz) lead(0,1)=1 put(0,x^5z+y^6) lead(0,1)=6""");
    Edge.part(1, "by ORDER 2: of greater c, if c is the same of greater b", """
        order(2)=0 put(0,y^2+xz) lead(0,2)=1 put(0,x^2+xy) lead(0,1)=1 put(0,xz+yz) lead(0,1)=1 put(0,yz+z^2) lead(0,2)=2 put(0,y^6+x^5z) lead(0,2)=1""");
    Edge.part(1, "LEADING TERM of a POLYNOMIAL (but 0)", """
        lead(0,0)=NONE generator(0)=STATE put(0,7) lead(0,0)=0 lead(0,1)=0 lead(0,2)=0 lead(0,3)=0 put(0,z+7) lead(0,2)=1 lead(0,3)=1""");
    Edge.part(1, "LEADING COEFFICIENT: the one there", "put(0,2x+y) generator(0)=STATE put(0,x+2y) generator(0)=0");
  }

  private static void turnsAndFamilies() {
    Edge.part(1, "TURNS 0 .. 5", """
        put(0,x^3y^2) turn(0,0)=1 coefficient(0,3,2,0)=1 turn(0,5)=1 coefficient(0,0,2,3)=1 turn(0,6)=BAD turn(0,-1)=BAD
        link(0,0)=1 link(0,5)=2 link(0,6)=BAD link(0,-1)=BAD""");
    Edge.part(1, "0 x, y, z; 1 x, z, y; 2 y, x, z; 3 y, z, x; 4 z, x, y; 5 z, y, x", """
        put(0,x^3y^2) turn(0,0)=1 coefficient(0,3,2,0)=1 put(0,x^3y^2) turn(0,1)=1 coefficient(0,3,0,2)=1
        put(0,x^3y^2) turn(0,2)=1 coefficient(0,2,3,0)=1 put(0,x^3y^2) turn(0,3)=1 coefficient(0,0,3,2)=1
        put(0,x^3y^2) turn(0,4)=1 coefficient(0,2,0,3)=1 put(0,x^3y^2) turn(0,5)=1 coefficient(0,0,2,3)=1""");
    Edge.part(1, "all at once", "put(0,x+2y+3z) turn(0,2)=3 coefficient(0,0,1,0)=1 coefficient(0,1,0,0)=2 coefficient(0,0,0,1)=3");
    Edge.part(1, "(by TURN 3 x is y then, y is z, z is x)", """
        put(0,x+2y+3z) turn(0,3)=3 coefficient(0,0,1,0)=1 coefficient(0,0,0,1)=2 coefficient(0,1,0,0)=3""");
    Edge.part(1, "FAMILIES: 0: x + y; x y; x y^2.", "family(0)=3 put(3,x+y) put(4,xy) put(5,xy^2) like(3)=0 like(4)=1 like(5)=2");
    Edge.part(1, "1: x + y + z; x y + x z + y z; x y z.", "family(1)=3 put(3,x+y+z) put(4,xy+xz+yz) put(5,xyz) like(3)=0 like(4)=1 like(5)=2");
    Edge.part(1, "2: x + y + z; x^2 + y^2 + z^2; x^3 + y^3 + z^3.", """
        family(2)=3 put(3,x+y+z) put(4,x^2+y^2+z^2) put(5,x^3+y^3+z^3) like(3)=0 like(4)=1 like(5)=2""");
    Edge.part(1, "3: those of 1, then x^2 y + y^2 z + z^2 x.", """
        family(3)=4 put(4,x^2y+y^2z+xz^2) like(4)=3 put(4,x+y+z) like(4)=0 put(4,xy+xz+yz) like(4)=1 put(4,xyz) like(4)=2""");
    Edge.part(1, "4: x^2; x y; y^2; z.", "family(4)=4 put(4,x^2) like(4)=0 put(4,xy) like(4)=1 put(4,y^2) like(4)=2 put(4,z) like(4)=3");
    Edge.part(1, "5: x^2 + x; x^3 - 2; y z + x.", "family(5)=3 put(3,x^2+x) put(4,x^3-2) put(5,yz+x) like(3)=0 like(4)=1 like(5)=2");
  }

  // ---- promises 1 to 17

  private static void aNewObject() {
    Edge.promise(1, "All SLOTS are 0", "lead(0,4)=0 lead(1,4)=0 lead(2,4)=0 lead(3,4)=0 lead(4,4)=0 lead(5,4)=0 norm(0)=0 norm(5)=0");
    Edge.promise(1, "there are no GENERATORS", "count(0)=0 count(1)=0 give(0,0)=BAD drop()=STATE ofGenerator(0,0)=BAD order(2)=0");
    Edge.promise(1, "nothing is KEPT", "count(4)=0 back()=NONE count(4)=0");
  }

  private static void order() {
    Edge.promise(2, "(0 .. 2)", "order(0)=0 order(2)=0 order(1)=2 order(-1)=BAD order(3)=BAD order(MIN)=BAD order(MAX)=BAD count(3)=1");
    Edge.promise(2, "what it was", "order(0)=0 order(1)=0 order(1)=1 order(2)=1 order(2)=2 order(0)=2 count(3)=0");
    Edge.promise(2, "STATE: there are GENERATORS", """
        gens(0,x) order(0)=STATE order(1)=STATE order(2)=STATE count(3)=0 drop()=0 order(1)=0 gens(0,x) order(1)=STATE count(3)=1""");
    Edge.promise(2, "BAD; STATE", "gens(0,x) order(3)=BAD order(-1)=BAD order(2)=STATE");
  }

  private static void term() {
    Edge.promise(3, "BAD: slot", "term(0,1,1,0,0)=1 term(5,1,1,0,0)=1 term(-1,1,1,0,0)=BAD term(6,1,1,0,0)=BAD term(MIN,1,1,0,0)=BAD term(MAX,1,1,0,0)=BAD");
    Edge.promise(3, "c (-999 .. 999)", """
        term(0,999,1,0,0)=1 term(0,-999,0,1,0)=2 term(0,1000,0,0,1)=BAD term(0,-1000,0,0,1)=BAD term(0,MIN,0,0,1)=BAD term(0,MAX,0,0,1)=BAD
        coefficient(0,1,0,0)=999 coefficient(0,0,1,0)=-999 coefficient(0,0,0,1)=0 term(0,0,0,0,1)=2""");
    Edge.promise(3, "no such TERM", "term(0,0,6,0,0)=0 term(0,0,7,0,0)=BAD term(0,0,0,0,-1)=BAD term(0,1,0,0,6)=1 term(0,1,0,1,6)=BAD");
    Edge.promise(3, "how many TERMS it has", "term(0,0,1,0,0)=0 term(0,1,1,0,0)=1 term(0,1,1,0,0)=1 term(0,-1,0,0,0)=2 term(0,-2,1,0,0)=1 term(0,1,0,0,0)=0");
    Edge.promise(3, "WIDE: its NORM and c without its sign are above LARGEST together", """
        big(0,L-999,1,0,0) term(0,999,0,1,0)=2 norm(0)=L term(0,1,0,1,0)=WIDE term(0,-1,0,1,0)=WIDE term(0,0,0,1,0)=2
        big(0,L-999,1,0,0) term(0,-999,1,0,0)=1 coefficient(0,1,0,0)=L-1998
        big(0,L-998,1,0,0) term(0,999,0,1,0)=WIDE term(0,-999,1,0,0)=WIDE term(0,-998,1,0,0)=1""");
    Edge.promise(3, "BAD: slot, c, no such TERM; WIDE", "big(0,L,1,0,0) term(0,1,7,0,0)=BAD term(0,1000,1,0,0)=BAD term(0,1,1,0,0)=WIDE");
  }

  private static void clear() {
    Edge.promise(4, "SLOT s becomes 0: how many TERMS it had", """
        clear(0)=0 put(5,x^6+y+z^6+1) clear(5)=4 clear(5)=0 norm(5)=0 coefficient(5,6,0,0)=0 coefficient(5,0,0,6)=0 coefficient(5,0,0,0)=0""");
    Edge.promise(4, "BAD", "put(0,x) put(5,y) clear(-1)=BAD clear(6)=BAD clear(MIN)=BAD clear(MAX)=BAD clear(0)=1 clear(5)=1");
  }

  private static void add() {
    Edge.promise(5, "BAD", """
        put(0,x) put(5,y) add(0,5,1)=2 add(5,0,1)=2 add(-1,0,1)=BAD add(6,0,1)=BAD add(0,-1,1)=BAD add(0,6,1)=BAD
        add(MIN,0,1)=BAD add(0,MAX,1)=BAD add(MAX,MIN,1)=BAD""");
    Edge.promise(5, "c (-999 .. 999)", """
        put(1,x) add(0,1,999)=1 coefficient(0,1,0,0)=999 add(2,1,-999)=1 coefficient(2,1,0,0)=-999 add(0,1,1000)=BAD add(0,1,-1000)=BAD
        add(0,1,MIN)=BAD add(0,1,MAX)=BAD add(3,4,1000)=BAD add(3,4,999)=0""");
    Edge.promise(5, "how many TERMS it has", "put(0,x+y) put(1,x-z) add(0,1,0)=2 add(0,1,-1)=2 add(0,1,1)=2 add(2,0,1)=2 add(2,2,1)=2 add(2,2,-1)=0 add(2,2,7)=0");
    Edge.promise(5, "WIDE: its NORM and c without its sign times the NORM of t are above LARGEST together", """
        put(1,x-y) big(0,L-1998,1,0,0) add(0,1,999)=2 norm(0)=L add(0,1,1)=WIDE add(0,1,-1)=WIDE add(0,1,0)=2
        big(0,L-1998,1,0,0) add(0,1,-999)=2 norm(0)=L-1998 big(0,L-1997,1,0,0) add(0,1,999)=WIDE add(0,1,-999)=WIDE add(0,1,998)=2""");
    Edge.promise(5, "WIDE: its NORM and c without its sign times the NORM of t are above LARGEST together", """
        big(1,4611686018427387904,1,0,0) add(0,1,4)=WIDE add(0,1,-4)=WIDE add(0,1,8)=WIDE add(0,1,2)=WIDE add(0,1,-2)=WIDE add(0,1,5)=WIDE
        add(0,1,1)=1 add(0,1,1)=WIDE add(0,0,-1)=WIDE big(2,L,0,0,0) add(2,2,1)=WIDE add(2,2,-1)=WIDE add(3,2,999)=WIDE add(3,2,3)=WIDE add(3,2,-1)=1""");
    Edge.promise(5, "BAD; WIDE", "big(0,L,1,0,0) add(0,0,1000)=BAD add(0,6,1)=BAD add(0,0,999)=WIDE");
  }

  private static void times() {
    Edge.promise(6, "BAD", """
        put(0,x) put(5,y) times(0,5)=1 times(5,0)=1 times(-1,0)=BAD times(6,0)=BAD times(0,-1)=BAD times(0,6)=BAD times(MIN,0)=BAD times(0,MAX)=BAD""");
    Edge.promise(6, "DEEP", """
        put(0,x^3) put(1,y^3+1) put(2,z^4+1) times(0,2)=DEEP times(2,0)=DEEP times(0,1)=2 put(0,x^6) times(0,0)=DEEP put(3,5) times(0,3)=1
        times(3,0)=1 put(3,z+5) times(0,3)=DEEP times(3,0)=DEEP put(4,x^3) times(4,4)=1 lead(4,3)=6 put(4,x^4) times(4,4)=DEEP
        put(0,2z^6) put(3,-3) times(0,3)=1 coefficient(0,0,0,6)=-6 times(3,0)=1 coefficient(3,0,0,6)=18""");
    Edge.promise(6, "how many TERMS it has", """
        put(0,x^6+1) times(0,1)=0 put(0,x^6+1) times(1,0)=0 times(1,1)=0 put(1,x+1) put(2,x-1) times(1,2)=2 coefficient(1,0,0,0)=-1 times(2,2)=3 coefficient(2,0,0,0)=1 coefficient(2,1,0,0)=-2 put(3,1) times(1,3)=2 put(3,-1) times(3,3)=1 coefficient(3,0,0,0)=1""");
    Edge.promise(6, "WIDE: one NORM times the other one is above LARGEST", """
        big(0,L/7,1,0,0) put(1,3x-4y) times(0,1)=2 norm(0)=L big(0,L/7+1,1,0,0) times(0,1)=WIDE times(1,0)=WIDE
        big(0,L,1,0,0) put(1,-1) times(0,1)=1 put(1,2) times(0,1)=WIDE times(0,2)=0""");
    Edge.promise(6, "WIDE: one NORM times the other one is above LARGEST", """
        big(0,3037000499,1,0,0) times(0,0)=1 norm(0)=9223372030926249001 big(0,3037000500,1,0,0) times(0,0)=WIDE
        big(0,4294967296,1,0,0) times(0,0)=WIDE big(1,8589934592,0,1,0) times(0,1)=WIDE times(1,0)=WIDE big(0,L,1,0,0) times(0,0)=WIDE""");
    Edge.promise(6, "DEEP; WIDE", "big(0,L,4,0,0) times(0,0)=DEEP times(0,6)=BAD put(1,2x^3) times(0,1)=DEEP times(1,0)=DEEP put(1,2x^2) times(0,1)=WIDE");
  }

  private static void turn() {
    Edge.promise(7, "BAD", """
        put(0,x+2y) put(5,z) turn(0,1)=2 turn(5,5)=1 turn(0,0)=2 turn(-1,0)=BAD turn(6,0)=BAD turn(MIN,0)=BAD turn(MAX,0)=BAD
        turn(0,-1)=BAD turn(0,6)=BAD turn(0,MIN)=BAD turn(0,MAX)=BAD""");
    Edge.promise(7, "how many TERMS it has", "turn(0,3)=0 put(0,x+y) turn(0,3)=2 put(1,x+y+z+1) put(0,x+y+z+1) times(0,1)=10 times(0,1)=20 times(0,0)=84 turn(0,4)=84");
  }

  private static void even() {
    Edge.promise(8, "BAD", "put(0,x) put(5,x) even(0)=3 even(5)=3 even(-1)=BAD even(6)=BAD even(MIN)=BAD even(MAX)=BAD");
    Edge.promise(8, "how many TERMS it has", """
        even(0)=0 put(0,x-y) even(0)=0 put(0,2) even(0)=1 coefficient(0,0,0,0)=12 put(0,xyz+x) even(0)=4 coefficient(0,1,1,1)=6 coefficient(0,0,1,0)=2
        put(0,x^3y^2) even(0)=6 norm(0)=6""");
    Edge.promise(8, "WIDE: 6 times its NORM is above LARGEST", """
        big(0,L/6-1,1,0,0) term(0,-1,0,0,0)=2 even(0)=4 norm(0)=9223372036854775806 big(0,L/6,1,0,0) term(0,-1,0,0,0)=2 even(0)=WIDE
        big(0,L,1,1,1) even(0)=WIDE big(0,L/6,1,1,1) even(0)=1 coefficient(0,1,1,1)=9223372036854775806""");
    Edge.promise(8, "WIDE: 6 times its NORM is above LARGEST", """
        big(0,3074457345618258603,1,0,0) even(0)=WIDE big(0,6148914691236517205,1,0,0) even(0)=WIDE big(0,4611686018427387904,0,0,0) even(0)=WIDE""");
  }

  private static void orbit() {
    Edge.promise(9, "How many unlike POLYNOMIALS", """
        orbit(0)=1 put(0,5) orbit(0)=1 put(0,x+y+z) orbit(0)=1 put(0,x^2y+y^2z+xz^2) orbit(0)=2 put(0,x) orbit(0)=3 put(0,z) orbit(0)=3 put(0,x+y) orbit(0)=3
        put(0,x+2y) orbit(0)=6 put(0,x-y) orbit(0)=6 put(0,x^3y^2+z) orbit(0)=6""");
    Edge.promise(9, "BAD", "put(5,x) orbit(5)=3 orbit(0)=1 orbit(-1)=BAD orbit(6)=BAD orbit(MIN)=BAD orbit(MAX)=BAD");
  }

  private static void like() {
    Edge.promise(10, "The first SLOT that holds the same POLYNOMIAL", """
        like(0)=0 like(5)=0 put(0,x) like(0)=0 like(1)=1 like(5)=1 put(5,x) like(5)=0 put(5,-x) like(5)=5 put(4,-x) like(5)=4 put(4,x+z^6) like(5)=5 like(4)=4
        put(3,z^6+x) like(4)=3 put(1,x) like(1)=0 put(1,x+1) like(1)=1 put(1,x-1) put(2,x+1) like(2)=2""");
    Edge.promise(10, "BAD", "like(-1)=BAD like(6)=BAD like(MIN)=BAD like(MAX)=BAD");
  }

  private static void coefficient() {
    Edge.promise(11, "The coefficient of SLOT s at a TERM", """
        coefficient(0,0,0,0)=0 big(0,L,0,0,6) coefficient(0,0,0,6)=L coefficient(0,6,0,0)=0 link(6,0)=1 run(0,0)=1 coefficient(0,0,0,6)=-L""");
    Edge.promise(11, "NO: slot, no such TERM", """
        put(0,1) put(5,1) coefficient(0,0,0,0)=1 coefficient(5,0,0,0)=1 coefficient(-1,0,0,0)=NO coefficient(6,0,0,0)=NO coefficient(MIN,0,0,0)=NO
        coefficient(MAX,0,0,0)=NO coefficient(0,6,0,0)=0 coefficient(0,7,0,0)=NO coefficient(0,-1,0,0)=NO coefficient(0,0,-1,0)=NO coefficient(0,0,0,-1)=NO
        coefficient(0,0,7,0)=NO coefficient(0,0,0,7)=NO coefficient(0,3,3,1)=NO coefficient(0,7,-1,0)=NO""");
  }

  private static void lead() {
    Edge.promise(12, "BAD", """
        put(0,x^3y^2z) put(5,z^6) lead(0,0)=3 lead(0,1)=2 lead(0,2)=1 lead(0,3)=6 lead(0,4)=1 lead(5,2)=6 lead(0,-1)=BAD lead(0,5)=BAD lead(0,MIN)=BAD lead(0,MAX)=BAD
        lead(-1,0)=BAD lead(6,0)=BAD lead(-1,4)=BAD lead(6,4)=BAD lead(MIN,4)=BAD lead(MAX,4)=BAD""");
    Edge.promise(12, "NONE: it is 0 (not for what 4)", """
        lead(0,0)=NONE lead(0,1)=NONE lead(0,2)=NONE lead(0,3)=NONE lead(0,4)=0 lead(0,5)=BAD lead(0,-1)=BAD term(0,1,0,0,0)=1 lead(0,0)=0 lead(0,3)=0 lead(0,4)=1""");
  }

  private static void norm() {
    Edge.promise(13, "NORM of SLOT s", "norm(0)=0 big(5,L,1,2,3) norm(5)=L term(4,-999,0,0,6)=1 norm(4)=999");
    Edge.promise(13, "NO: slot", "norm(0)=0 norm(5)=0 norm(-1)=NO norm(6)=NO norm(MIN)=NO norm(MAX)=NO");
  }

  private static void at() {
    Edge.promise(14, "modulo m (2 .. 1000000)", """
        put(0,x) at(0,5,0,0,2)=1 at(0,5,0,0,1000000)=5 at(0,5,0,0,1)=NO at(0,5,0,0,0)=NO at(0,5,0,0,-1)=NO at(0,5,0,0,-2)=NO at(0,5,0,0,1000001)=NO
        at(0,5,0,0,MIN)=NO at(0,5,0,0,MAX)=NO""");
    Edge.promise(14, "0 .. m - 1", """
        put(0,x) at(0,0,9,9,2)=0 at(0,-1,0,0,1000000)=999999 at(0,1000000,0,0,1000000)=0 at(0,999999,0,0,1000000)=999999 at(0,-2,0,0,2)=0
        put(0,-1) at(0,0,0,0,2)=1 at(0,0,0,0,1000000)=999999 at(1,3,4,5,7)=0 put(0,x+y) at(0,999999,1,0,1000000)=0 at(0,-5,4,0,10)=9""");
    Edge.promise(14, "What SLOT s is worth with those for x, y, z", """
        put(0,1) at(0,0,0,0,7)=1 put(0,x^6) at(0,999999,0,0,1000000)=1 at(0,0,9,9,7)=0 put(0,x) at(0,MAX,0,0,1000000)=483647 at(0,MIN,0,0,1000000)=516352
        put(0,xy^2z^3) at(0,2,1,1,1000)=2 at(0,1,3,1,1000)=9 at(0,1,1,2,1000)=8 at(0,5,3,2,1000)=360 at(0,MIN,MIN,MIN,3)=1 at(0,MAX,1,1,2)=1 big(0,L,0,0,0) at(0,0,0,0,1000000)=775807 add(1,0,-1)=1 at(1,0,0,0,1000000)=224193""");
    Edge.promise(14, "NO: slot, m", "at(0,1,1,1,2)=0 at(5,1,1,1,2)=0 at(-1,1,1,1,2)=NO at(6,1,1,1,2)=NO at(MIN,1,1,1,2)=NO at(MAX,1,1,1,2)=NO at(6,1,1,1,1)=NO");
  }

  private static void poly() {
    Edge.promise(15, "BAD: slot, sheet, n", """
        sheet(0,1,4)=1 sheet(3,1,4)=1 poly(0,0,0,1)=1 poly(5,3,0,1)=1 poly(-1,0,0,1)=BAD poly(6,0,0,1)=BAD poly(MIN,0,0,1)=BAD poly(0,-1,0,1)=BAD
        poly(0,4,0,1)=BAD poly(0,MAX,0,1)=BAD poly(0,0,0,-1)=BAD poly(0,0,0,11)=BAD poly(0,0,0,MIN)=BAD poly(0,0,0,MAX)=BAD""");
    Edge.promise(15, "n (0 .. 10)", """
        sheet(0,1,40)=1 cell(0,0,7)=1 cell(0,36,5)=1 cell(0,39,6)=1 poly(0,0,0,10)=2 coefficient(0,0,0,6)=5 coefficient(0,0,0,0)=7 poly(0,0,0,11)=BAD
        poly(0,0,0,0)=0 lead(0,4)=0 poly(0,0,0,-1)=BAD""");
    Edge.promise(15, "SLOT s becomes the sum of n (0 .. 10) told ones", """
        put(0,x^5+7) sheet(0,1,8)=1 cell(0,0,2)=1 cell(0,1,1)=1 cell(0,4,3)=1 cell(0,5,1)=1 poly(0,0,0,2)=1 lead(0,4)=1 coefficient(0,1,0,0)=5
        cell(0,4,-2)=1 poly(0,0,0,2)=1 lead(0,4)=0""");
    Edge.promise(15, "how many unlike TERMS were told (of coefficient 0, too)", """
        sheet(0,1,12)=1 poly(0,0,0,1)=1 lead(0,4)=0 poly(0,0,0,3)=1 cell(0,5,1)=1 poly(0,0,0,3)=2 cell(0,10,1)=1 poly(0,0,0,3)=3 lead(0,4)=0 cell(0,8,1)=1 poly(0,0,0,3)=3 lead(0,4)=1""");
    Edge.promise(15, "NOTHING", "put(0,x) poly(0,0,0,1)=NOTHING poly(0,3,-1,0)=NOTHING poly(0,0,0,11)=BAD poly(6,0,0,1)=BAD sheet(0,1,0)=1 poly(0,0,0,0)=0 poly(0,0,0,1)=OUTSIDE");
  }

  private static void polyOneByOne() {
    Edge.promise(15, "OUTSIDE: its four numbers are not all there", """
        put(0,x) sheet(0,1,11)=1 poly(0,0,7,1)=1 poly(0,0,8,1)=OUTSIDE poly(0,0,11,1)=OUTSIDE poly(0,0,12,1)=OUTSIDE poly(0,0,0,1)=1 poly(0,0,-1,1)=OUTSIDE
        poly(0,0,-4,1)=OUTSIDE poly(0,0,-4,2)=OUTSIDE poly(0,0,3,2)=1 poly(0,0,4,2)=OUTSIDE sheet(1,1,3)=1 poly(0,1,0,1)=OUTSIDE""");
    Edge.promise(15, "OUTSIDE: its four numbers are not all there", """
        put(0,x) sheet(0,1,40)=1 poly(0,0,36,1)=1 poly(0,0,37,1)=OUTSIDE poly(0,0,0,10)=1 poly(0,0,1,10)=OUTSIDE poly(0,0,1,9)=1
        poly(0,0,MAX,1)=OUTSIDE poly(0,0,2147483644,1)=OUTSIDE poly(0,0,2147483640,10)=OUTSIDE poly(0,0,MIN,1)=OUTSIDE poly(0,0,MIN,10)=OUTSIDE poly(0,0,-36,10)=OUTSIDE""");
    Edge.promise(15, "BAD: they are not as told", """
        put(0,x) sheet(0,1,4)=1 cell(0,0,999)=1 poly(0,0,0,1)=1 cell(0,0,1000)=1 poly(0,0,0,1)=BAD cell(0,0,-999)=1 poly(0,0,0,1)=1 cell(0,0,-1000)=1
        poly(0,0,0,1)=BAD cell(0,0,MIN)=1 poly(0,0,0,1)=BAD cell(0,0,0)=1 cell(0,1,6)=1 poly(0,0,0,1)=1 cell(0,1,7)=1 poly(0,0,0,1)=BAD cell(0,1,5)=1 cell(0,2,2)=1
        poly(0,0,0,1)=BAD cell(0,2,-1)=1 poly(0,0,0,1)=BAD cell(0,2,0)=1 cell(0,3,2)=1 poly(0,0,0,1)=BAD cell(0,3,-1)=1 poly(0,0,0,1)=BAD cell(0,3,1)=1 poly(0,0,0,1)=1
        cell(0,1,-1)=1 poly(0,0,0,1)=BAD cell(0,1,MAX)=1 cell(0,2,MAX)=1 cell(0,3,2)=1 poly(0,0,0,1)=BAD""");
    Edge.promise(15, "then one by one OUTSIDE: its four numbers are not all there; BAD: they are not as told", """
        put(0,x) sheet(0,1,7)=1 cell(0,0,1000)=1 poly(0,0,0,2)=BAD cell(0,0,5)=1 poly(0,0,0,2)=OUTSIDE poly(0,0,4,2)=OUTSIDE cell(0,1,7)=1 poly(0,0,0,2)=BAD
        sheet(0,1,8)=1 cell(0,4,1000)=1 poly(0,0,0,2)=BAD poly(0,0,0,3)=BAD cell(0,4,1)=1 poly(0,0,0,3)=OUTSIDE coefficient(0,1,0,0)=1 poly(0,0,0,2)=1 coefficient(0,1,0,0)=0""");
  }

  private static void spread() {
    Edge.promise(16, "BAD: slot, sheet", """
        sheet(0,1,4)=1 sheet(3,1,4)=1 put(0,x) put(5,y) spread(0,0,0)=1 spread(5,3,0)=1 spread(-1,0,0)=BAD spread(6,0,0)=BAD spread(MIN,0,0)=BAD spread(MAX,0,0)=BAD
        spread(0,-1,0)=BAD spread(0,4,0)=BAD spread(0,MIN,0)=BAD spread(0,MAX,0)=BAD""");
    Edge.promise(16, "NOTHING", "put(0,x) spread(0,0,0)=NOTHING spread(0,3,-1)=NOTHING spread(0,3,41)=NOTHING spread(6,0,0)=BAD sheet(0,0,0)=1 spread(0,0,0)=0 sheet(0,-1,0)=1 spread(0,0,0)=NOTHING");
    Edge.promise(16, "OUTSIDE: from is below 0 or above how many numbers it has", """
        put(0,x) sheet(0,1,5)=1 spread(0,0,0)=1 spread(0,0,5)=0 spread(0,0,6)=OUTSIDE spread(0,0,-1)=OUTSIDE spread(0,0,MIN)=OUTSIDE spread(0,0,MAX)=OUTSIDE
        spread(1,0,5)=0 spread(1,0,6)=OUTSIDE sheet(1,0,0)=1 spread(0,1,0)=0 spread(0,1,1)=OUTSIDE sheet(2,1,40)=1 spread(0,2,40)=0 spread(0,2,41)=OUTSIDE""");
    Edge.promise(16, "as many as have room whole: how many came", """
        put(0,3x^2+4y) sheet(0,1,8)=1 spread(0,0,0)=2 item(0,0)=3 item(0,1)=2 item(0,4)=4 item(0,6)=1 sheet(0,1,7)=1 spread(0,0,0)=1 item(0,0)=3 item(0,4)=0
        sheet(0,1,3)=1 spread(0,0,0)=0 item(0,0)=0 sheet(0,1,4)=1 spread(0,0,0)=1 spread(0,0,1)=0 sheet(0,1,6)=1 spread(0,0,2)=1 item(0,1)=0 item(0,2)=3 spread(0,0,3)=0
        spread(1,0,0)=0 item(0,2)=3""");
    Edge.promise(16, "as many as have room whole: how many came", """
        put(0,x+y+z+1) put(1,x+y+z+1) times(0,1)=10 sheet(0,0,40)=1 spread(0,0,0)=10 item(0,39)=0 item(0,36)=1 spread(0,0,1)=9 times(0,1)=20 spread(0,0,0)=10 item(0,37)=0 item(0,39)=3""");
    Edge.promise(16, "TERMS of SLOT s, from the greatest down", """
        sheet(0,1,12)=1 put(0,5+6z^6+7x^6) spread(0,0,0)=3 item(0,0)=7 item(0,4)=6 item(0,8)=5 order(2)=0 spread(0,0,0)=3 item(0,0)=6 item(0,4)=7 item(0,8)=5""");
    Edge.promise(16, "(Each number becomes its lowest 8 bits in bytes, 32 in ints.)", """
        sheet(0,0,4)=1 put(0,127x) spread(0,0,0)=1 item(0,0)=127 put(0,128x) spread(0,0,0)=1 item(0,0)=-128 put(0,256x) spread(0,0,0)=1 item(0,0)=0 item(0,1)=1
        put(0,-128x) spread(0,0,0)=1 item(0,0)=-128 put(0,-129x) spread(0,0,0)=1 item(0,0)=127""");
    Edge.promise(16, "(Each number becomes its lowest 8 bits in bytes, 32 in ints.)", """
        sheet(0,1,4)=1 big(0,2147483647,1,0,0) spread(0,0,0)=1 item(0,0)=2147483647 big(0,2147483648,1,0,0) spread(0,0,0)=1 item(0,0)=-2147483648
        big(0,4294967296,1,0,0) spread(0,0,0)=1 item(0,0)=0 item(0,1)=1 big(0,L,1,0,0) spread(0,0,0)=1 item(0,0)=-1""");
  }

  private static void family() {
    Edge.promise(17, "(0 .. 5)", "family(0)=3 family(5)=3 norm(1)=3 family(-1)=BAD family(6)=BAD family(MIN)=BAD family(MAX)=BAD norm(1)=3");
    Edge.promise(17, "the other ones stay: how many these are", """
        put(0,5z+1) put(1,6z^6) put(2,7x) put(3,8x) put(4,9x) family(1)=3 norm(0)=3 norm(1)=3 norm(2)=1 norm(3)=8 norm(4)=9 family(3)=4 norm(3)=3 norm(4)=9 family(4)=4 norm(4)=9 norm(5)=0 family(2)=3 norm(3)=1 family(0)=3 family(5)=3 norm(3)=1""");
  }
}
