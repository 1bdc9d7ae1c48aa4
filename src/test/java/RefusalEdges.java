/** What stands behind the parts of "Terms": what is KEPT, and that a call that refuses, or that only asks, changes nothing. */
final class RefusalEdges {
  /** Something of everything: five generators, two of them grown, other things kept, a witness, three sheets, five links. */
  private static final String RICH = """
      gens(0,x+y;xy;xy^2) complete(4)=0 put(1,2x^2-3) put(2,y^3+5z) put(3,z^6) put(4,x+4) keep()=4 complete(5)=0 put(0,x-7) put(4,x^2y+9) subduct(4)=3
      sheet(0,1,9)=1 cell(0,0,1000)=1 cell(0,8,5)=1 sheet(1,0,5)=1 cell(1,0,77)=1 sheet(3,1,0)=1 link(2,1)=1 link(1,3)=2 link(3,2)=3 link(0,3)=4 link(6,0)=5\s""";
  /** Seven generators, an open relation, eight links. */
  private static final String FULL = """
      gens(0,x;x^2+y;y^3;y^4;y^5;z^3;z^4) keep()=7 put(0,x^2) subduct(0)=1 put(0,x) put(1,z+7) put(2,-z) link(6,0)=1 link(0,1)=2 link(2,1)=3 link(3,1)=4 link(1,2)=5 link(6,0)=6 link(6,0)=7 link(5,1)=8\s""";
  /** Slot 0 is LARGEST, slot 1 that times x^3; relations whose difference is wide, and whose subduction is. */
  private static final String WIDE = """
      gens(2,x+1) big(3,L-1,0,1,0) term(3,1,2,0,0)=2 generator(3)=1 keep()=2 put(2,5) subduct(2)=1 big(0,L,0,0,0) big(1,L,3,0,0) put(2,y^4) put(4,x) put(5,1)\s""";
  /** As WIDE, but it is the subduction of the relation that is wide. */
  private static final String WIDE_LATER = """
      gens(2,x+1) big(3,L/3+3,1,0,0) term(3,1,2,0,0)=2 generator(3)=1 keep()=2 put(2,5) subduct(2)=1 put(2,y^4) difference(2,0,4)=2\s""";

  private RefusalEdges() {
  }

  static void all() {
    kept();
    refusing();
    refusingPolynomials();
    refusingOfGenerators();
    refusingOfSheets();
    refusingWhenFull();
    refusingWhenWide();
    asking();
    aWholeLife();
  }

  private static void kept() {
    Edge.behindTheParts("A KEPT state has SLOTS, ORDER, GENERATORS with EXPRESSIONS.", """
        order(1)=0 gens(5,x;x^2+y+x) complete(2)=0 put(0,z) keep()=3 drop()=2 drop()=1 drop()=0 order(2)=1 clear(0)=1 clear(5)=3 back()=3 coefficient(0,0,0,1)=1 coefficient(5,2,0,0)=1 count(3)=1 made(2,2,-1)=-1
        ofGenerator(2,5)=1 grown(2,3,5,7,100)=5 ofGenerator(2,4)=1 ofGenerator(1,4)=0""");
  }

  private static void refused(String state, String calls) {
    Edge.behindTheParts("A call that refuses changes nothing", state + calls);
  }

  private static void refusing() {
    Edge.behindTheParts("BAD, a number is not as told, or there is no such thing", "give(0,0)=BAD gens(0,x) give(0,0)=1 give(1,0)=BAD order(7)=BAD term(0,1,7,0,0)=BAD term(0,1000,0,0,0)=BAD sheet(7,0,1)=BAD link(7,0)=BAD count(99)=BAD");
    Edge.behindTheParts("DEEP: a TERM would be of DEGREE above 6", "put(0,x^3) put(1,x^4) times(0,1)=DEEP times(1,0)=DEEP times(0,0)=1 link(5,0)=1 run(0,0)=DEEP gens(2,x;y;z^3) put(3,z^3) through(3)=DEEP put(3,z^2) through(3)=1");
    Edge.behindTheParts("NOTHING: the SHEET is missing", "cell(0,0,1)=NOTHING poly(0,0,0,1)=NOTHING spread(0,0,0)=NOTHING move(0,0,1,0,1)=NOTHING item(0,0)=NO sheet(0,1,4)=1 cell(0,0,1)=1 poly(0,0,0,1)=1 spread(0,0,0)=1 move(0,0,1,0,1)=NOTHING item(0,0)=1");
    Edge.behindTheParts("SORT: SHEETS of unlike sorts", "sheet(0,0,4)=1 sheet(1,1,4)=1 move(0,0,1,0,1)=SORT move(1,0,0,0,1)=SORT move(0,0,0,1,1)=1 move(1,0,1,1,1)=1");
    Edge.behindTheParts("SIZE: a size below 0", "sheet(0,0,-1)=SIZE sheet(0,1,MIN)=SIZE sheet(0,0,0)=1 sheet(0,0,-1)=SIZE count(5)=1 sheet(0,-1,-1)=1");
    Edge.behindTheParts("of several the one that is named first", """
        sheet(4,0,-1)=BAD sheet(0,7,-1)=BAD poly(0,0,-9,11)=BAD poly(0,0,-9,1)=NOTHING cell(9,99,0)=BAD cell(0,99,0)=NOTHING move(9,0,0,0,-1)=BAD move(0,-1,1,-1,-1)=NOTHING sheet(0,0,1)=1 sheet(1,1,1)=1 move(0,-1,1,-1,-1)=SORT
        gens(0,x) order(9)=BAD generator(9)=BAD through(9)=BAD lead(9,9)=BAD witness(9)=BAD difference(9,9,9)=BAD difference(2,9,9)=BAD relation(9,9,9,9)=BAD spread(0,2,-1)=NOTHING spread(9,2,-1)=BAD""");
    Edge.behindTheParts("Where they would be numbers of the thing itself NO stands for all", """
        coefficient(9,9,9,9)=NO norm(9)=NO at(9,1,1,1,1)=NO made(0,0,0)=NO grown(0,1,1,1,7)=NO lattice(0,0)=NO span(0,0)=NO part(1,0,0)=NO part(9,9,9)=NO step(0,0)=NO item(0,0)=NO item(9,9)=NO""");
  }

  private static void refusingPolynomials() {
    refused(RICH, "order(-1)=BAD order(3)=BAD order(0)=STATE order(1)=STATE term(6,1,0,0,0)=BAD term(0,1000,0,0,0)=BAD term(0,-1000,0,0,0)=BAD term(0,1,7,0,0)=BAD term(0,1,0,-1,0)=BAD clear(-1)=BAD clear(6)=BAD add(6,0,1)=BAD add(0,6,1)=BAD add(0,1,1000)=BAD add(0,1,-1000)=BAD");
    refused(RICH, "times(6,0)=BAD times(0,-1)=BAD times(3,0)=DEEP times(0,3)=DEEP times(3,3)=DEEP turn(6,1)=BAD turn(0,6)=BAD turn(0,-1)=BAD even(6)=BAD even(-1)=BAD orbit(6)=BAD like(6)=BAD like(-1)=BAD family(-1)=BAD family(6)=BAD");
    refused(RICH, "coefficient(6,0,0,0)=NO coefficient(0,7,0,0)=NO lead(0,5)=BAD lead(6,0)=BAD lead(4,0)=NONE lead(4,3)=NONE norm(6)=NO at(0,1,1,1,1)=NO at(6,1,1,1,7)=NO at(0,1,1,1,1000001)=NO");
    refused(RICH, "poly(6,0,0,1)=BAD poly(0,4,0,1)=BAD poly(0,0,0,11)=BAD poly(0,0,0,-1)=BAD poly(0,2,0,1)=NOTHING poly(0,0,6,1)=OUTSIDE poly(0,0,-1,1)=OUTSIDE poly(0,0,0,1)=BAD poly(0,0,1,3)=OUTSIDE poly(0,0,4,2)=OUTSIDE poly(0,1,0,2)=OUTSIDE poly(0,1,1,2)=OUTSIDE");
    refused(RICH, "spread(6,0,0)=BAD spread(0,4,0)=BAD spread(0,2,0)=NOTHING spread(0,0,-1)=OUTSIDE spread(0,0,10)=OUTSIDE spread(0,3,1)=OUTSIDE spread(0,1,6)=OUTSIDE");
  }

  private static void refusingOfGenerators() {
    refused(RICH, "generator(6)=BAD generator(-1)=BAD generator(4)=STATE generator(0)=STATE generator(1)=STATE give(5,0)=BAD give(-1,0)=BAD give(0,6)=BAD ofGenerator(5,0)=BAD ofGenerator(0,9)=BAD ofGenerator(0,-1)=BAD");
    refused(RICH, "made(0,0,-1)=NO made(3,2,-1)=NO made(3,0,7)=NO made(3,-1,0)=NO made(5,0,0)=NO grown(5,1,1,1,7)=NO grown(3,1,1,1,1)=NO through(6)=BAD through(3)=DEEP rows(7,0,0)=BAD row(7,0,0,0,0)=BAD row(1,0,0,0,5)=BAD row(1,0,0,1,0)=NONE row(0,0,1,0,0)=NONE");
    refused(RICH, "monoid(7,0)=BAD monoid(0,3)=BAD root(7,0,0)=BAD root(0,0,1)=NONE rank(2)=BAD lattice(3,0)=NO lattice(0,5)=NO span(2,0)=NO span(0,3)=NO inSpan(1000,0,0)=BAD");
    refused(RICH, "relations(0)=BAD relations(7)=BAD relation(7,0,0,0)=BAD relation(6,0,2,0)=BAD relation(6,0,0,5)=BAD relation(6,99,0,0)=NONE part(7,0,0)=NO part(6,99,0)=NO part(6,0,9)=NO difference(7,0,0)=BAD difference(6,0,6)=BAD difference(6,99,0)=NONE difference(3,0,0)=NONE");
    refused(RICH, "open(0)=BAD open(7)=BAD open(3)=NONE complete(0)=BAD complete(7)=BAD wouldGrow(0,0)=BAD wouldGrow(7,0)=BAD wouldGrow(6,3)=BAD wouldGrow(6,-1)=BAD certified(0)=BAD certified(7)=BAD subduct(6)=BAD subduct(-1)=BAD member(6)=BAD step(3,0)=NO step(0,7)=NO witness(6)=BAD witness(-1)=BAD");
    refused("put(0,x) put(3,z^2) sheet(0,1,3)=1 ", "drop()=STATE back()=NONE witness(3)=NONE through(3)=STATE generator(1)=STATE give(0,3)=BAD step(0,0)=NO relation(6,0,0,0)=BAD difference(6,0,3)=NONE open(6)=NONE lead(1,0)=NONE root(1,0,0)=NONE row(0,0,0,0,0)=BAD made(0,0,0)=NO");
    refused("put(0,3) subduct(0)=1 put(0,x) link(3,0)=1 ", "drop()=STATE back()=NONE subduct(6)=BAD witness(6)=BAD generator(5)=STATE through(0)=STATE through(6)=BAD");
  }

  private static void refusingOfSheets() {
    refused(RICH, "sheet(4,0,1)=BAD sheet(-1,0,1)=BAD sheet(0,2,1)=BAD sheet(0,-2,1)=BAD sheet(0,1,41)=BAD sheet(0,0,41)=BAD sheet(0,0,-1)=SIZE sheet(0,1,-1)=SIZE sheet(4,-1,0)=BAD cell(4,0,1)=BAD cell(2,0,1)=NOTHING cell(0,9,1)=OUTSIDE cell(0,-1,1)=OUTSIDE cell(3,0,1)=OUTSIDE");
    refused(RICH, "item(4,0)=NO item(2,0)=NO item(0,9)=NO item(0,-1)=NO move(4,0,0,0,1)=BAD move(0,0,4,0,1)=BAD move(0,0,2,0,1)=NOTHING move(2,0,0,0,1)=NOTHING move(0,0,1,0,1)=SORT move(0,0,0,1,9)=OUTSIDE move(0,1,0,0,9)=OUTSIDE move(0,0,3,0,1)=OUTSIDE move(0,0,0,1,-1)=OUTSIDE move(0,-1,0,0,1)=OUTSIDE move(0,0,0,-1,1)=OUTSIDE");
    refused(RICH, "link(7,0)=BAD link(-1,0)=BAD link(0,6)=BAD link(1,1000)=BAD link(2,6)=BAD link(3,6)=BAD link(5,6)=BAD run(6,0)=BAD run(0,2)=BAD run(-1,1)=BAD run(0,-1)=BAD link(5,3)=6 run(0,0)=DEEP run(0,1)=DEEP count(8)=BAD count(-1)=BAD");
  }

  private static void refusingWhenFull() {
    refused(FULL, "generator(1)=FULL generator(0)=STATE generator(3)=STATE generator(2)=STATE generator(6)=BAD link(6,0)=FULL link(2,0)=FULL link(5,5)=FULL link(7,0)=BAD wouldGrow(2,0)=7 wouldGrow(2,1)=1 complete(2)=1 complete(2)=1 count(0)=7 count(1)=0");
  }

  private static void refusingWhenWide() {
    refused(WIDE, "term(0,1,0,0,0)=WIDE term(0,-1,1,0,0)=WIDE add(0,5,1)=WIDE add(0,0,-1)=WIDE add(5,0,1)=WIDE add(4,1,999)=WIDE times(0,3)=WIDE times(0,0)=WIDE times(1,2)=DEEP times(2,1)=DEEP even(0)=WIDE even(1)=WIDE");
    refused(WIDE, "difference(2,0,4)=WIDE open(2)=WIDE complete(2)=3 wouldGrow(2,0)=2 wouldGrow(2,1)=3 certified(2)=WIDE subduct(1)=WIDE subduct(0)=WIDE member(1)=WIDE count(0)=2 step(0,-1)=5 link(5,0)=1 run(3,0)=WIDE run(3,1)=WIDE");
    refused(WIDE, "link(2,0)=1 run(5,0)=WIDE run(0,1)=WIDE loosen()=1 link(3,1)=1 run(5,0)=WIDE loosen()=1 link(1,2)=1 run(0,0)=WIDE loosen()=1 link(4,0)=1 run(1,0)=WIDE loosen()=1 gens(5,y-z) through(1)=WIDE");
    refused(WIDE_LATER, "open(2)=WIDE complete(2)=3 wouldGrow(2,0)=2 wouldGrow(2,1)=3 certified(2)=WIDE subduct(4)=WIDE member(4)=WIDE count(0)=2 step(0,-1)=5 link(4,0)=1 run(4,0)=WIDE run(4,1)=WIDE");
    refused("gens(1,x+y;y+z;z+1) big(0,L/7+1,1,0,0) subduct(0)=4 put(0,z) ", "witness(0)=WIDE witness(1)=WIDE witness(6)=BAD count(2)=4");
  }

  private static void asking() {
    Edge.behindTheParts("what is only asked changes nothing, too", RICH + """
        orbit(1)=3 like(5)=4 coefficient(1,2,0,0)=2 lead(1,4)=2 norm(1)=5 at(1,2,3,4,7)=5 ofGenerator(3,1)=3 made(3,0,-1)=1 grown(4,2,3,5,1000)=162 closed()=1 rows(2,1,0)=1 row(2,1,0,0,0)=1 monoid(6,2)=10""");
    Edge.behindTheParts("what is only asked changes nothing, too", RICH + """
        root(2,1,0)=1 rank(0)=3 lattice(0,0)=1 span(1,1)=1 inSpan(5,7,0)=1 index()=0 relations(6)=4 relation(6,0,0,0)=1 part(6,0,0)=1 open(6)=2 wouldGrow(6,0)=6 certified(6)=0 member(0)=0 step(0,-1)=1 item(0,0)=1000 count(0)=5""");
  }

  /** An object is used for at most 512 calls: the last one is answered as the first one. */
  private static void aWholeLife() {
    StringBuilder calls = new StringBuilder("gens(0,x+y;xy;xy^2) ");
    for (int i = 0; i < 99; i++) calls.append("complete(6)=0 keep()=6 drop()=5 drop()=4 drop()=3 ");
    Script.runWithoutLooks("512 calls", calls + "wouldGrow(6,0)=6 back()=6 count(1)=3 ofGenerator(5,5)=3 give(5,0)=1 norm(0)=1 open(6)=NONE");
  }
}
