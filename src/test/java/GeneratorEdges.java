/** Generators in part 2 of "Terms", and promises 18 to 25. */
final class GeneratorEdges {
  private static final String SEVEN = "gens(0,x;y;z;x^2;y^2;z^2;xy) ";

  private GeneratorEdges() {
  }

  static void all() {
    generators();
    rowsAndCosts();
    expressions();
    generator();
    give();
    ofGenerator();
    drop();
    made();
    grown();
    closed();
    through();
    throughWide();
  }

  // ---- part 2

  private static void generators() {
    Edge.part(2, "GENERATORS 0, 1, .. (7 at most)", """
        gens(0,x;y;z;x^2;y^2;z^2) count(0)=6 put(0,xy) generator(0)=6 put(0,xz) generator(0)=FULL count(0)=7 give(6,1)=1 give(7,1)=BAD drop()=6 generator(0)=6""");
    Edge.part(2, "POLYNOMIALS with LEADING COEFFICIENT 1", """
        put(0,2x) generator(0)=STATE put(0,-x) generator(0)=STATE put(0,-x+y) generator(0)=STATE put(0,2x+y) generator(0)=STATE put(0,x-999y+999) generator(0)=0""");
    Edge.part(2, "whose LEADING TERM isn't 1 (0, 0, 0)", "put(0,1) generator(0)=STATE generator(1)=STATE put(0,z+1) generator(0)=0 put(0,1) generator(0)=STATE");
    Edge.part(2, "no two with the same LEADING TERM", """
        gens(0,x;y;z) put(0,x+1) generator(0)=STATE put(0,y+1) generator(0)=STATE put(0,z+1) generator(0)=STATE drop()=2 generator(0)=2 count(0)=3""");
    Edge.part(2, "FIRST ones (that were told) or GROWN ones", """
        gens(0,x;x^2+y) ofGenerator(0,4)=0 ofGenerator(1,4)=0 complete(2)=0 ofGenerator(0,4)=0 ofGenerator(2,4)=1 drop()=2 put(0,y) generator(0)=2 ofGenerator(2,4)=0""");
    Edge.part(2, "Their DEGREE is that of the LEADING TERM.", """
        gens(0,x^6+y;z+1) ofGenerator(0,3)=6 ofGenerator(1,3)=1""");
  }

  private static void rowsAndCosts() {
    Edge.part(2, "a POWER (0 or more) for each GENERATOR", """
        rows(0,0,0)=1 row(0,0,0,0,0)=BAD rows(1,0,0)=0 gens(0,x) rows(6,0,0)=1 row(6,0,0,0,0)=6 row(0,0,0,0,0)=0 rows(0,1,0)=0""");
    Edge.part(2, "of two the one with the greater POWER where they are unlike first; the FIRST ROW is the first of them", """
        gens(0,x^2;y;x;xy) rows(2,1,0)=3 row(2,1,0,0,0)=1 row(2,1,0,0,1)=1 row(2,1,0,1,1)=1 row(2,1,0,1,2)=2 row(2,1,0,2,1)=0 row(2,1,0,2,2)=1 row(2,1,0,2,3)=1
        put(1,x^2y) subduct(1)=1 step(0,0)=1 step(0,1)=1 step(0,2)=0""");
    Edge.part(2, "(of the ROW of nothing but 0: 1, as its PRODUCT)", """
        big(0,L/2,0,0,0) member(0)=1 subduct(0)=1 step(0,-1)=L/2 step(0,0)=0 witness(1)=1 coefficient(1,0,0,0)=L/2 big(0,L/2+1,0,0,0) member(0)=WIDE""");
    Edge.part(2, "by all TERMS from the greatest down", "gens(0,x+y;y+z;z+1) put(1,x) subduct(1)=4 step(0,0)=1 step(1,1)=1 step(2,2)=1 step(3,-1)=-1 step(3,2)=0 lead(1,4)=0");
    Edge.part(2, "by all TERMS from the greatest down", "order(2)=0 gens(0,z+x;x) put(1,z) member(1)=1 subduct(1)=2 step(0,0)=1 step(1,-1)=-1 step(1,1)=1 drop()=1 drop()=0 order(1)=2 gens(0,x-z;z) put(1,x) subduct(1)=2 step(1,1)=1");
    Edge.part(2, "if its coefficient c there, as it is then, isn't 0", """
        gens(0,x+y;y) put(1,x+y) subduct(1)=1 put(1,x+2y) subduct(1)=2 step(1,-1)=1 put(1,x) subduct(1)=2 step(1,-1)=-1""");
    Edge.part(2, "and the TERM has a ROW", "gens(0,x^2+y) put(1,x^3+x^2+x+1) subduct(1)=2 step(0,0)=1 step(1,0)=0 lead(1,4)=3 coefficient(1,0,1,0)=-1");
    Edge.part(2, "c without its sign times the COST are above LARGEST together", """
        gens(0,x-2y) big(1,L/4,1,0,0) member(1)=0 big(1,L/4+1,1,0,0) member(1)=WIDE subduct(1)=WIDE add(2,1,-1)=1 member(2)=WIDE
        big(1,4611686018427387904,1,0,0) member(1)=WIDE big(1,L,1,0,0) member(1)=WIDE""");
    Edge.part(2, "WIDE: at a STEP its NORM, as it is then", """
        gens(0,x) big(1,L-2,0,1,0) term(1,1,1,0,0)=2 member(1)=0 big(1,L-2,0,1,0) term(1,2,1,0,0)=2 member(1)=WIDE big(1,L,0,1,0) member(1)=0 subduct(1)=0
        big(1,L/2,1,0,0) term(1,1,0,0,0)=2 member(1)=1 big(1,L/2,1,0,0) term(1,2,0,0,0)=2 member(1)=WIDE""");
    Edge.part(2, "WIDE: at a STEP its NORM, as it is then", """
        gens(0,x-3y;y) big(1,L/6,1,0,0) member(1)=1 big(1,L/6+1,1,0,0) member(1)=WIDE drop()=1 member(1)=0 drop()=0
        gens(0,x+y) big(1,L/2,0,0,0) term(1,1,1,0,0)=2 term(1,1,0,1,0)=3 member(1)=1 term(1,1,0,0,0)=3 member(1)=WIDE""");
    Edge.part(2, "there is none at first, nor behind drop(), back()", """
        count(6)=0 witness(0)=NONE step(0,-1)=NO put(0,5) gens(1,x) subduct(0)=1 count(6)=1 witness(2)=1 drop()=0 count(6)=0 witness(2)=NONE step(0,-1)=NO
        subduct(1)=0 count(6)=1 count(2)=0 witness(2)=0 keep()=0 count(6)=1 back()=0 count(6)=0 witness(2)=NONE""");
    Edge.part(2, "the STEPS of the latest subduct() that wasn't refused", """
        put(0,5) put(1,x) subduct(0)=1 step(0,-1)=5 big(2,L,0,0,0) subduct(2)=WIDE subduct(6)=BAD step(0,-1)=5 count(6)=1 drop()=STATE back()=NONE step(0,-1)=5
        member(1)=0 link(4,0)=1 run(3,0)=0 open(6)=NONE complete(6)=0 step(0,-1)=5 gens(4,x) keep()=1 order(1)=STATE step(0,-1)=5 count(6)=1 witness(5)=1 put(1,y) subduct(1)=0 step(0,-1)=NO count(6)=1""");
  }

  private static void expressions() {
    Edge.part(2, "two in both of which some GENERATOR has a POWER above 0 are of one GROUP, and so on from one to the next", """
        gens(0,x;y;xy;x^2) relations(2)=2 rows(2,2,0)=4 row(2,2,0,2,1)=2 row(2,2,0,2,3)=1 row(2,2,0,3,2)=2 relations(4)=2 relations(6)=2""");
    Edge.part(2, "and so on from one to the next", """
        gens(0,y^2z^2;y^4;y^2z;z^2;y^2) rows(0,4,2)=4 relations(6)=3 relation(6,2,0,0)=1 relation(6,2,0,4)=1 relation(6,2,1,0)=0 relation(6,2,1,2)=2 relation(6,3,0,0)=NONE""");
    Edge.part(2, "and so on from one to the next", """
        gens(0,y^2z;y;yz;yz^2;y^2) rows(0,3,2)=4 relations(1)=0 relations(2)=1 relations(3)=2 relations(4)=3 relations(5)=3 relations(6)=3""");
    Edge.part(2, "GROUPS stand as their first ROWS do", """
        gens(0,x^2;y^2;x;y;xy) relations(2)=3 relation(2,0,0,1)=1 relation(2,0,1,3)=2 relation(2,1,0,2)=1 relation(2,1,0,3)=1 relation(2,1,1,4)=1
        relation(2,2,0,0)=1 relation(2,2,1,2)=2 relation(2,3,0,0)=NONE""");
    Edge.part(2, "RELATIONS TO d (1 .. 6), numbered from 0 on", """
        gens(0,x;x^2;y^6;y^3) relations(0)=BAD relations(1)=0 relations(2)=1 relations(5)=1 relations(6)=2 relations(7)=BAD
        relation(6,-1,0,0)=NONE relation(6,0,0,0)=2 relation(6,1,0,2)=1 relation(6,2,0,0)=NONE relation(5,1,0,0)=NONE relation(1,0,0,0)=NONE""");
    Edge.part(2, "by all TERMS of DEGREE d at most, from the least up", """
        gens(0,x;z;x^2;z^2;x^3) relation(2,0,0,1)=2 relation(2,1,0,0)=2 relation(3,2,0,0)=3 drop()=4 drop()=3 drop()=2 drop()=1 drop()=0 order(2)=0
        gens(0,x;z;x^2;z^2;x^3) relation(2,0,0,0)=2 relation(2,1,0,1)=2 relation(3,2,0,0)=3 relation(3,2,1,4)=1 relations(3)=3""");
    Edge.part(2, "each GROUP but the first in turn", "relations(6)=0 gens(0,x) relations(6)=0 gens(0,y) relations(6)=0 gens(0,xy) relations(6)=1 relation(6,0,0,0)=1 relation(6,0,1,2)=1");
    Edge.part(2, "WIDE: their COSTS are above LARGEST together", """
        gens(0,x) big(1,L-2,0,0,0) term(1,1,2,0,0)=2 generator(1)=1 difference(2,0,2)=1 norm(2)=L-2 drop()=1
        term(1,1,0,1,0)=3 generator(1)=1 difference(2,0,2)=WIDE open(2)=WIDE complete(2)=3 wouldGrow(2,1)=3""");
    Edge.part(2, "A RELATION CLOSES, if 0 is LEFT", "gens(0,x;x^2) open(6)=NONE drop()=1 gens(0,x^2+1) open(6)=NONE drop()=1 gens(0,x^2+y) open(6)=0 gens(0,y) open(6)=NONE");
    Edge.part(2, "HEIGHT: of a FIRST one 0", """
        gens(0,x+y;xy;xy^2) complete(6)=0 ofGenerator(0,5)=0 ofGenerator(1,5)=0 ofGenerator(2,5)=0 ofGenerator(3,5)=1 ofGenerator(4,5)=2 ofGenerator(5,5)=3 ofGenerator(6,5)=BAD
        drop()=5 drop()=4 put(0,z) generator(0)=4 ofGenerator(4,5)=0 ofGenerator(4,6)=0 ofGenerator(3,5)=1""");
    Edge.part(2, "of a GROWN one 1 more than the greatest of those that have a POWER above 0 in a PART of it", """
        gens(0,x;x^2+y;x^3+z) complete(3)=0 ofGenerator(3,5)=1 ofGenerator(4,5)=1 drop()=4 drop()=3 drop()=2 drop()=1 gens(0,x^2+y;x^3+y+z) complete(3)=0 count(0)=5
        ofGenerator(3,5)=1 ofGenerator(4,5)=2 ofGenerator(4,6)=3 made(4,2,3)=1""");
    Edge.part(2, "(e, LEFT), (-e, RIGHT), then for each STEP (c, ROW) in turn: (-e times c, that ROW)", """
        gens(0,x;x^2+y+3x) complete(2)=0 made(2,0,-1)=-1 made(2,1,-1)=1 made(2,2,-1)=-3 made(2,2,0)=1 ofGenerator(2,6)=3 drop()=2 drop()=1
        gens(0,x^2-y+3x) complete(2)=0 made(2,0,-1)=1 made(2,0,0)=2 made(2,1,-1)=-1 made(2,1,1)=1 made(2,2,-1)=3 made(2,2,0)=1 ofGenerator(2,6)=3""");
  }

  // ---- promises 18 to 25

  private static void generator() {
    Edge.promise(18, "BAD", "put(0,x) put(5,y) generator(0)=0 generator(5)=1 generator(-1)=BAD generator(6)=BAD generator(MIN)=BAD generator(MAX)=BAD count(0)=2");
    Edge.promise(18, "STATE: it can't be one (it is 0", "generator(0)=STATE generator(5)=STATE put(0,z) generator(0)=0");
    Edge.promise(18, "its LEADING COEFFICIENT isn't 1", """
        put(0,2z) generator(0)=STATE put(0,-z) generator(0)=STATE put(0,2z+1) generator(0)=STATE put(0,z+2) generator(0)=0 order(2)=STATE drop()=0
        put(0,2x+z) generator(0)=STATE order(2)=0 generator(0)=0""");
    Edge.promise(18, "its LEADING TERM is 1", "put(0,1) generator(0)=STATE put(0,999) generator(0)=STATE put(0,z+999) generator(0)=0");
    Edge.promise(18, "or that of another one", "gens(0,x;y;x^6) put(0,x-5) generator(0)=STATE put(0,x^6+z^6) generator(0)=STATE put(0,y-1) generator(0)=STATE put(0,x^5) generator(0)=3");
    Edge.promise(18, "or that of another one", "gens(0,x;x^2+y) complete(2)=0 put(0,y+1) generator(0)=STATE drop()=2 generator(0)=2");
    Edge.promise(18, "FULL: there are 7", "gens(0,x;y;z;x^2;y^2;z^2) put(0,xy) generator(0)=6 put(0,xz) generator(0)=FULL drop()=6 generator(0)=6 put(0,yz) generator(0)=FULL");
    Edge.promise(18, "BAD; STATE: it can't be one", SEVEN + """
        generator(6)=BAD generator(0)=STATE put(0,1) generator(0)=STATE put(0,-xz) generator(0)=STATE generator(1)=STATE put(0,z+1) generator(0)=STATE put(0,xz) generator(0)=FULL""");
    Edge.promise(18, "a FIRST GENERATOR more: its number", """
        put(0,x) generator(0)=0 put(0,y) generator(0)=1 put(0,z) generator(0)=2 put(0,x^2) generator(0)=3 put(0,y^2) generator(0)=4 put(0,z^2) generator(0)=5
        put(0,xy) generator(0)=6 count(0)=7 count(1)=0 ofGenerator(6,4)=0""");
  }

  private static void give() {
    Edge.promise(19, "BAD", """
        give(0,0)=BAD gens(0,x;y+1) give(0,0)=1 give(1,5)=2 coefficient(0,1,0,0)=1 coefficient(5,0,1,0)=1 give(2,0)=BAD give(-1,0)=BAD give(MIN,0)=BAD give(MAX,0)=BAD
        give(0,-1)=BAD give(0,6)=BAD give(0,MIN)=BAD give(0,MAX)=BAD""");
    Edge.promise(19, "GENERATOR g: how many TERMS it has", SEVEN + "give(6,1)=1 coefficient(1,1,1,0)=1 give(7,1)=BAD put(1,x^6+y^5+1) give(0,1)=1 lead(1,4)=1 coefficient(1,0,0,0)=0");
  }

  private static void ofGenerator() {
    Edge.promise(20, "BAD", """
        ofGenerator(0,0)=BAD gens(0,x^3y^2z;y) ofGenerator(0,0)=3 ofGenerator(0,1)=2 ofGenerator(0,2)=1 ofGenerator(0,3)=6 ofGenerator(0,8)=1 ofGenerator(0,9)=BAD
        ofGenerator(0,-1)=BAD ofGenerator(0,MIN)=BAD ofGenerator(0,MAX)=BAD ofGenerator(1,0)=0 ofGenerator(2,0)=BAD ofGenerator(-1,0)=BAD ofGenerator(MIN,0)=BAD ofGenerator(MAX,0)=BAD""");
    Edge.promise(20, "4 1 if it is GROWN, else 0", "gens(0,x;x^2-y) ofGenerator(1,4)=0 complete(2)=0 ofGenerator(1,4)=0 ofGenerator(2,4)=1 keep()=3 drop()=2 back()=3 ofGenerator(2,4)=1 ofGenerator(0,4)=0");
    Edge.promise(20, "6 how many PARTS its EXPRESSION has (0: it is a FIRST one)", """
        gens(0,x;x^2+y) ofGenerator(1,6)=0 complete(2)=0 ofGenerator(0,6)=0 ofGenerator(1,6)=0 ofGenerator(2,6)=2 drop()=2 drop()=1 gens(0,x^2+y+x+1) complete(2)=0 ofGenerator(2,6)=4""");
    Edge.promise(20, "7 1 if its LEADING TERM has another ROW besides that of itself, else 0", """
        gens(0,x^2) ofGenerator(0,7)=0 gens(0,y) ofGenerator(0,7)=0 gens(0,x) ofGenerator(0,7)=1 ofGenerator(2,7)=0 ofGenerator(1,7)=0 drop()=2 ofGenerator(0,7)=0
        gens(0,x^2y^2) ofGenerator(2,7)=1 ofGenerator(0,7)=0""");
  }

  private static void drop() {
    Edge.promise(21, "STATE: there is none", "drop()=STATE gens(0,x) drop()=0 drop()=STATE count(0)=0 order(1)=0");
    Edge.promise(21, "The last GENERATOR is gone: how many are left", SEVEN + """
        rows(1,1,0)=2 drop()=6 rows(1,1,0)=1 give(6,0)=BAD rows(0,0,2)=2 drop()=5 rows(0,0,2)=1 drop()=4 drop()=3 drop()=2 rows(0,0,1)=0 drop()=1 rows(1,0,0)=1 drop()=0 rows(1,0,0)=0 monoid(6,2)=0""");
    Edge.promise(21, "The last GENERATOR is gone", "gens(0,x;x^2+y) complete(2)=0 relations(2)=1 rank(0)=1 drop()=2 count(1)=0 rank(0)=1 open(2)=0 drop()=1 relations(2)=0 rank(0)=0 certified(1)=1");
  }

  private static void made() {
    Edge.promise(22, "PART i of the EXPRESSION", """
        gens(0,x;x^2+y+x) complete(2)=0 made(2,0,-1)=-1 made(2,2,-1)=-1 made(2,3,-1)=NO made(2,-1,-1)=NO made(2,MIN,-1)=NO made(2,MAX,-1)=NO made(2,3,0)=NO""");
    Edge.promise(22, "what -1 the coefficient, 0 .. 6 the POWER of that GENERATOR (0: there is none such)", """
        gens(0,x;x^2+y) complete(2)=0 made(2,0,-1)=-1 made(2,0,0)=2 made(2,0,1)=0 made(2,0,2)=0 made(2,0,3)=0 made(2,0,6)=0 made(2,0,7)=NO made(2,0,-2)=NO
        made(2,0,MIN)=NO made(2,0,MAX)=NO made(2,1,1)=1 made(2,1,6)=0""");
    Edge.promise(22, "NO: g, i, what, it is a FIRST one", """
        made(0,0,-1)=NO gens(0,x;x^2+y) made(1,0,-1)=NO complete(2)=0 made(0,0,-1)=NO made(1,0,-1)=NO made(1,0,0)=NO made(2,1,-1)=1 made(3,0,-1)=NO made(-1,0,-1)=NO
        made(MIN,0,-1)=NO made(MAX,0,-1)=NO made(2,2,-1)=NO drop()=2 made(2,0,-1)=NO""");
  }

  private static void grown() {
    Edge.promise(23, "modulo m (2 .. 1000000)", """
        gens(0,x;x^2+y) complete(2)=0 grown(2,3,5,0,2)=1 grown(2,3,5,0,1000000)=5 grown(2,3,5,0,1)=NO grown(2,3,5,0,0)=NO grown(2,3,5,0,-1)=NO grown(2,3,5,0,1000001)=NO
        grown(2,3,5,0,MIN)=NO grown(2,3,5,0,MAX)=NO grown(0,3,5,0,1)=NO grown(0,3,5,0,2)=1""");
    Edge.promise(23, "0 .. m - 1", """
        gens(0,x;x^2+y) complete(2)=0 grown(2,0,-1,0,1000000)=999999 grown(2,7,1000000,0,1000000)=0 grown(0,-1,0,0,1000000)=999999 grown(2,MAX,MIN,0,1000000)=516352
        grown(2,MIN,MAX,0,1000000)=483647 grown(2,0,0,0,2)=0 grown(1,999999,0,0,1000000)=1 grown(2,999999,999999,0,1000000)=999999""");
    Edge.promise(23, "a GROWN one by its EXPRESSION of what those in it are worth", """
        gens(0,x;x^2+y+x+1) complete(2)=0 ofGenerator(2,6)=4 grown(2,3,5,7,100)=5 drop()=2 drop()=1 gens(0,x^2+y) complete(2)=0 ofGenerator(2,6)=2 grown(2,3,5,7,100)=5 made(2,2,-1)=NO
        gens(0,x^3+z) complete(3)=0 ofGenerator(4,6)=2 grown(4,3,5,7,100)=7 grown(3,3,5,7,100)=34 grown(1,3,5,7,100)=14""");
    Edge.promise(23, "NO: g, m", """
        grown(0,1,1,1,7)=NO gens(0,x;y) grown(1,1,1,1,7)=1 grown(2,1,1,1,7)=NO grown(-1,1,1,1,7)=NO grown(MIN,1,1,1,7)=NO grown(MAX,1,1,1,7)=NO grown(2,1,1,1,1)=NO""");
  }

  private static void closed() {
    Edge.promise(24, "(63: there are none)", "closed()=63 gens(0,x) closed()=3 drop()=0 closed()=63");
    Edge.promise(24, "The TURNS (bits 0 .. 5) by which each GENERATOR is some GENERATOR", """
        gens(0,x+2y) closed()=1 drop()=0 gens(0,x+y+z;x^2y+y^2z+xz^2) closed()=25 drop()=1 closed()=63 gens(0,y+1) closed()=33 drop()=1 gens(0,y;z) closed()=3 gens(0,x^2) closed()=3
        gens(0,y^2) closed()=1 gens(0,z^2) closed()=3""");
    Edge.promise(24, "(bits 0 .. 5)", """
        gens(0,x) closed()=3 drop()=0 gens(0,y) closed()=33 drop()=0 gens(0,z) closed()=5 gens(0,x) closed()=33 gens(0,y) closed()=63 drop()=2 closed()=33 drop()=1 closed()=5
        gens(0,x;y;x^2;y^2;xy;z^2) closed()=5 drop()=6 closed()=5""");
    Edge.promise(24, "by which each GENERATOR is some GENERATOR", "gens(0,x+1;y) closed()=1 drop()=1 gens(0,y+1) closed()=5 gens(0,z) closed()=5 drop()=2 gens(0,z+1) closed()=63");
  }

  private static void through() {
    Edge.promise(25, "BAD", "gens(0,x;y;z) put(0,x) put(5,y) through(0)=1 through(5)=1 through(-1)=BAD through(6)=BAD through(MIN)=BAD through(MAX)=BAD");
    Edge.promise(25, "STATE: there are fewer than three", """
        put(0,1) through(0)=STATE through(6)=BAD gens(1,x) through(0)=STATE gens(1,y) through(0)=STATE through(2)=STATE gens(1,z) through(0)=1 gens(1,xy) through(0)=1 drop()=3 drop()=2 through(0)=STATE""");
    Edge.promise(25, "with GENERATORS 0, 1, 2 put for x, y, z", """
        gens(0,z+1;x;y;x^2) put(1,x) through(1)=2 coefficient(1,0,0,1)=1 put(1,y) through(1)=1 coefficient(1,1,0,0)=1 put(1,z) through(1)=1 coefficient(1,0,1,0)=1
        put(1,7) through(1)=1 coefficient(1,0,0,0)=7 through(2)=0 put(1,x-z^2-1) through(1)=2 coefficient(1,0,0,1)=1 coefficient(1,0,2,0)=-1""");
    Edge.promise(25, "DEEP: for a TERM of it a, b, c times the DEGREES of these are above 6 together", """
        gens(0,x;y^2;z^3) put(1,z^2) through(1)=1 put(1,yz+x) through(1)=2 put(1,xyz) through(1)=1 lead(1,3)=6 put(1,z^3) through(1)=DEEP put(1,x^2yz) through(1)=DEEP put(1,y^4) through(1)=DEEP
        put(1,y^3) through(1)=1 put(1,x^6) through(1)=1 put(1,x^5y+1) through(1)=DEEP put(1,z^6) through(1)=DEEP""");
    Edge.promise(25, "DEEP: for a TERM of it a, b, c times the DEGREES of these are above 6 together", """
        gens(0,x^6;y^6;z^6) put(1,x+y+z+1) through(1)=4 put(1,x^6) through(1)=DEEP put(1,xy) through(1)=DEEP put(1,x^2y^2z^2) through(1)=DEEP put(1,z^6) through(1)=DEEP put(1,5) through(1)=1 clear(1)=1 through(1)=0""");
    Edge.promise(25, "SLOT s becomes itself with GENERATORS 0, 1, 2 put for x, y, z", SEVEN + """
        put(1,x^6-2y+3) through(1)=3 coefficient(1,6,0,0)=1 coefficient(1,0,1,0)=-2 coefficient(1,0,0,0)=3 put(1,z^6) through(1)=1 put(1,xyz+xy) through(1)=2 coefficient(1,1,1,1)=1 coefficient(1,1,1,0)=1
        put(1,5x^2y) subduct(1)=1 put(2,z) through(2)=1 coefficient(2,0,0,1)=1 norm(2)=1 put(1,5x^2y) subduct(1)=1 through(2)=1 norm(2)=1 member(2)=1 through(2)=1 norm(2)=1""");
    Edge.promise(25, "DEEP: for a TERM of it", "gens(0,y;xz;x^2) put(1,z) through(1)=1 lead(1,0)=2 put(1,x+z^4) through(1)=DEEP put(1,z^3+x) through(1)=2 put(1,y^4+x) through(1)=DEEP put(1,y^2z+x^6) through(1)=2");
  }

  private static void throughWide() {
    Edge.promise(25, "WIDE: its coefficients without signs, each times the COST of the ROW of POWERS a, b, c, are above LARGEST together", """
        gens(0,x-2y;y;z) big(1,L/3-1,1,0,0) term(1,-2,0,1,0)=2 term(1,2,0,0,1)=3 through(1)=3 coefficient(1,1,0,0)=L/3-1
        big(1,L/3-1,1,0,0) term(1,-2,0,1,0)=2 term(1,3,0,0,1)=3 through(1)=WIDE big(1,L/3+1,1,0,0) through(1)=WIDE big(1,L,0,1,0) through(1)=1""");
    Edge.promise(25, "WIDE: its coefficients without signs, each times the COST of the ROW of POWERS a, b, c, are above LARGEST together", """
        big(0,4294967295,0,0,0) term(0,1,1,0,0)=2 generator(0)=0 gens(2,y;z) put(1,x) through(1)=2 put(1,x^2) through(1)=WIDE put(1,x^4) through(1)=WIDE put(1,x^6) through(1)=WIDE
        put(1,2xy) through(1)=2""");
    Edge.promise(25, "BAD; STATE: there are fewer than three; DEEP", """
        through(7)=BAD gens(0,x^2-2y;y) big(1,L,4,0,0) through(1)=STATE through(7)=BAD gens(0,z) through(1)=DEEP big(1,L,3,0,0) through(1)=WIDE term(2,1,3,0,0)=1 through(2)=4""");
  }
}
