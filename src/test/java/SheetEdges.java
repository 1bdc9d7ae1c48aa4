/** Part 4 of "Terms", and promises 47 to 56: sheets, the chain, what is kept. */
final class SheetEdges {
  private static final String EIGHT = "link(0,3)=1 link(1,2)=2 link(2,0)=3 link(3,0)=4 link(4,0)=5 link(5,1)=6 link(6,0)=7 link(0,1)=8 ";

  private SheetEdges() {
  }

  static void all() {
    sheetsAndLinks();
    linksWide();
    linksDeep();
    sheet();
    cellAndItem();
    move();
    moveBeyond();
    link();
    run();
    runRefused();
    loosen();
    keep();
    back();
    count();
  }

  // ---- part 4

  private static void sheetsAndLinks() {
    Edge.part(4, "SHEETS 0 .. 3 are rows of numbers, 40 at most", """
        sheet(0,0,40)=1 sheet(1,1,40)=1 sheet(2,0,40)=1 sheet(3,1,40)=1 sheet(4,0,1)=BAD sheet(-1,0,1)=BAD sheet(0,0,41)=BAD sheet(1,1,41)=BAD item(0,39)=0 item(0,40)=NO cell(3,39,7)=1 cell(3,40,7)=OUTSIDE""");
    Edge.part(4, "of sort 0 (bytes) or 1 (ints)", "sheet(0,0,1)=1 sheet(1,1,1)=1 sheet(2,2,1)=BAD sheet(2,-2,1)=BAD cell(0,0,300)=1 cell(1,0,300)=1 item(0,0)=44 item(1,0)=300");
    Edge.part(4, "or missing (at first)", "count(5)=0 item(0,0)=NO cell(3,0,0)=NOTHING spread(0,1,0)=NOTHING move(2,0,2,0,0)=NOTHING sheet(2,0,0)=1 count(5)=1 move(2,0,2,0,0)=0 item(2,0)=NO");
    Edge.part(4, "(8 at most; none at first)", "count(7)=0 loosen()=0 put(0,x) run(0,0)=1 " + EIGHT + "link(6,0)=FULL count(7)=8 loosen()=8 link(6,0)=1 count(7)=1");
    Edge.part(4, "kind 0 what it is by TURN n (0 .. 5)", "put(0,x^3y^2) link(0,5)=1 run(0,0)=1 coefficient(0,0,2,3)=1 loosen()=1 link(0,0)=1 run(0,1)=1 coefficient(0,0,2,3)=1 link(0,6)=BAD link(0,-1)=BAD");
    Edge.part(4, "1 n (-999 .. 999) times what it is", "put(0,x) link(1,999)=1 link(1,-999)=2 run(0,0)=1 coefficient(0,1,0,0)=-998001 loosen()=2 link(1,1000)=BAD link(1,-1000)=BAD link(1,0)=1 run(0,0)=0 run(1,0)=0");
    Edge.part(4, "2 what it is and the POLYNOMIAL that SLOT n held as the LINK came", "put(0,x) put(5,y) link(2,5)=1 link(2,0)=2 put(5,z) put(0,z) run(0,0)=3 coefficient(0,1,0,0)=1 coefficient(0,0,1,0)=1 coefficient(0,0,0,1)=1 link(2,6)=BAD link(2,-1)=BAD");
    Edge.part(4, "3 what it is and the POLYNOMIAL of SLOT n", "put(0,x) put(5,y) link(3,5)=1 link(3,0)=2 put(5,z) put(0,2z) run(0,0)=1 coefficient(0,0,0,1)=5 link(3,6)=BAD link(3,-1)=BAD");
    Edge.part(4, "4 what is LEFT of it by SUBDUCTION (n doesn't matter)", "gens(0,x+y) put(0,x+7) link(4,MIN)=1 link(4,MAX)=2 run(0,0)=1 coefficient(0,0,1,0)=-1 count(6)=0");
    Edge.part(4, "5 its product with the POLYNOMIAL that SLOT n held as the LINK came", "put(0,x) put(5,y) link(5,5)=1 link(5,0)=2 put(5,z) put(0,z) run(0,0)=1 coefficient(0,1,1,1)=1 link(5,6)=BAD link(5,-1)=BAD");
    Edge.part(4, "6 -1 times what it is (n doesn't matter)", "put(0,x-y) link(6,MIN)=1 run(0,0)=2 coefficient(0,1,0,0)=-1 link(6,MAX)=2 run(0,0)=2 coefficient(0,1,0,0)=-1 run(1,0)=0");
  }

  private static void linksWide() {
    Edge.part(4, "1: n without its sign times its NORM is above LARGEST", """
        put(1,0) link(1,-7)=1 big(0,L/7-1,1,0,0) term(0,1,0,1,0)=2 run(0,0)=2 norm(0)=L big(0,L/7,1,0,0) term(0,1,0,1,0)=2 run(0,0)=WIDE loosen()=1 link(1,4)=1 big(0,4611686018427387904,1,0,0) run(0,0)=WIDE
        loosen()=1 link(1,0)=1 run(0,0)=0""");
    Edge.part(4, "2, 3: both NORMS together are", """
        put(1,x-y) link(2,1)=1 big(0,L-2,1,0,0) run(0,0)=2 coefficient(0,1,0,0)=L-1 norm(0)=L run(0,0)=WIDE run(1,0)=2 loosen()=1 link(2,0)=1 run(0,0)=WIDE big(2,L-2,1,0,0) run(2,0)=WIDE put(2,0) run(2,0)=2 norm(2)=L""");
    Edge.part(4, "2, 3: both NORMS together are", """
        put(1,x-y) link(3,1)=1 big(0,L-2,1,0,0) run(0,0)=2 coefficient(0,1,0,0)=L-1 norm(0)=L run(0,0)=WIDE put(1,0) run(0,0)=2 put(1,-x) run(0,0)=WIDE loosen()=1 link(3,0)=1 run(0,0)=WIDE put(1,0) run(1,0)=2""");
    Edge.part(4, "4: as of SUBDUCTION", "gens(1,x+y) link(4,0)=1 big(0,L/3,1,0,0) run(0,0)=1 big(0,L/3+1,1,0,0) run(0,0)=WIDE subduct(0)=WIDE big(0,L,0,1,0) run(0,0)=1 norm(0)=L");
    Edge.part(4, "5: one NORM times the other one is", "put(1,3x-4y) link(5,1)=1 big(0,L/7,1,0,0) run(0,0)=2 norm(0)=L big(0,L/7+1,1,0,0) run(0,0)=WIDE loosen()=1 big(1,4294967296,1,0,0) link(5,1)=1 put(0,0) run(0,0)=0 run(1,0)=WIDE");
  }

  private static void linksDeep() {
    Edge.part(4, "(DEEP ahead of it)", "big(1,L,3,0,0) put(2,y^3) link(5,1)=1 run(2,0)=1 lead(2,3)=6 run(2,0)=DEEP run(1,0)=WIDE put(2,2y^4) run(2,0)=DEEP put(2,2y^3) run(2,0)=WIDE put(2,0) run(2,0)=0");
  }

  // ---- promises 47 to 56

  private static void sheet() {
    Edge.promise(47, "BAD: sheet, sort (-1 .. 1), n above 40", """
        sheet(0,0,1)=1 sheet(3,1,1)=1 sheet(-1,0,1)=BAD sheet(4,0,1)=BAD sheet(MIN,0,1)=BAD sheet(MAX,0,1)=BAD sheet(0,-2,1)=BAD sheet(0,2,1)=BAD sheet(0,MIN,1)=BAD sheet(0,MAX,1)=BAD
        sheet(0,0,40)=1 sheet(0,0,41)=BAD sheet(0,1,41)=BAD sheet(0,1,MAX)=BAD sheet(4,-1,1)=BAD sheet(-1,-1,1)=BAD""");
    Edge.promise(47, "SIZE", "sheet(0,0,0)=1 sheet(0,0,-1)=SIZE sheet(0,1,-1)=SIZE sheet(0,1,MIN)=SIZE sheet(4,1,-1)=BAD sheet(0,2,-1)=BAD sheet(0,-2,-1)=BAD count(5)=1");
    Edge.promise(47, "or missing (sort -1: n doesn't matter): 1", """
        sheet(0,-1,0)=1 count(5)=0 sheet(0,0,3)=1 sheet(0,-1,41)=1 count(5)=0 sheet(0,0,3)=1 sheet(0,-1,-1)=1 count(5)=0 item(0,0)=NO sheet(0,0,3)=1 sheet(0,-1,MAX)=1 item(0,0)=NO sheet(0,0,3)=1 sheet(0,-1,MIN)=1 count(5)=0""");
    Edge.promise(47, "a row of n numbers of a sort, all 0", """
        sheet(0,0,2)=1 cell(0,0,5)=1 cell(0,1,6)=1 sheet(0,0,2)=1 item(0,0)=0 item(0,1)=0 item(0,2)=NO cell(0,1,6)=1 sheet(0,1,1)=1 item(0,0)=0 item(0,1)=NO cell(0,0,300)=1 item(0,0)=300 sheet(0,1,2)=1 item(0,1)=0
        sheet(0,0,0)=1 item(0,0)=NO count(5)=1""");
  }

  private static void cellAndItem() {
    Edge.promise(48, "BAD: sheet", "sheet(0,0,1)=1 sheet(3,0,1)=1 cell(0,0,1)=1 cell(3,0,1)=1 cell(-1,0,1)=BAD cell(4,0,1)=BAD cell(MIN,0,1)=BAD cell(MAX,0,1)=BAD cell(4,9,1)=BAD");
    Edge.promise(48, "NOTHING", "cell(0,0,1)=NOTHING cell(0,-1,1)=NOTHING cell(0,40,1)=NOTHING sheet(0,1,1)=1 cell(0,0,1)=1 sheet(0,-1,1)=1 cell(0,0,1)=NOTHING");
    Edge.promise(48, "OUTSIDE", "sheet(0,1,3)=1 cell(0,0,7)=1 cell(0,2,8)=1 cell(0,3,9)=OUTSIDE cell(0,-1,9)=OUTSIDE cell(0,MIN,9)=OUTSIDE cell(0,MAX,9)=OUTSIDE sheet(1,1,0)=1 cell(1,0,9)=OUTSIDE sheet(2,1,40)=1 cell(2,39,9)=1 cell(2,40,9)=OUTSIDE");
    Edge.promise(48, "(in bytes its lowest 8 bits)", """
        sheet(0,0,1)=1 cell(0,0,127)=1 item(0,0)=127 cell(0,0,128)=1 item(0,0)=-128 cell(0,0,-128)=1 item(0,0)=-128 cell(0,0,-129)=1 item(0,0)=127 cell(0,0,255)=1 item(0,0)=-1 cell(0,0,256)=1 item(0,0)=0
        cell(0,0,MAX)=1 item(0,0)=-1 cell(0,0,MIN)=1 item(0,0)=0 sheet(1,1,1)=1 cell(1,0,128)=1 item(1,0)=128 cell(1,0,MAX)=1 item(1,0)=MAX cell(1,0,MIN)=1 item(1,0)=MIN""");
    Edge.promise(49, "NO: sheet, it is missing, there is none such", """
        item(0,0)=NO sheet(0,0,2)=1 sheet(3,1,40)=1 item(0,0)=0 item(0,1)=0 item(0,2)=NO item(0,-1)=NO item(0,MIN)=NO item(0,MAX)=NO item(3,39)=0 item(3,40)=NO item(-1,0)=NO item(4,0)=NO item(MIN,0)=NO item(MAX,0)=NO
        sheet(0,0,0)=1 item(0,0)=NO sheet(3,-1,0)=1 item(3,0)=NO""");
  }

  private static void move() {
    Edge.promise(50, "BAD: sheets", "sheet(0,1,1)=1 sheet(3,1,1)=1 move(0,0,3,0,1)=1 move(3,0,0,0,1)=1 move(-1,0,0,0,1)=BAD move(4,0,0,0,1)=BAD move(0,0,-1,0,1)=BAD move(0,0,4,0,1)=BAD move(MIN,0,0,0,1)=BAD move(0,0,MAX,0,1)=BAD move(1,0,4,0,1)=BAD move(4,0,1,0,1)=BAD");
    Edge.promise(50, "NOTHING: one is missing", "move(0,0,0,0,0)=NOTHING sheet(0,1,3)=1 move(0,0,1,0,1)=NOTHING move(1,0,0,0,1)=NOTHING move(1,0,1,0,1)=NOTHING move(0,9,1,0,-1)=NOTHING move(0,0,0,0,1)=1");
    Edge.promise(50, "SORT", "sheet(0,0,3)=1 sheet(1,1,3)=1 move(0,0,1,0,1)=SORT move(1,0,0,0,1)=SORT move(0,0,1,0,0)=SORT move(0,0,1,0,9)=SORT move(0,-1,1,0,1)=SORT move(0,0,1,0,-1)=SORT sheet(1,0,3)=1 move(0,0,1,0,3)=3");
    Edge.promise(50, "as they all were: n", """
        sheet(0,1,4)=1 cell(0,0,1)=1 cell(0,1,2)=1 cell(0,2,3)=1 cell(0,3,4)=1 move(0,0,0,1,3)=3 item(0,0)=1 item(0,1)=1 item(0,2)=2 item(0,3)=3 move(0,1,0,0,3)=3 item(0,0)=1 item(0,1)=2 item(0,2)=3 item(0,3)=3 move(0,0,0,0,4)=4 move(0,2,0,1,0)=0 item(0,1)=2""");
  }

  private static void moveBeyond() {
    Edge.promise(50, "OUTSIDE: n, i, j below 0", """
        sheet(0,1,3)=1 sheet(1,1,3)=1 cell(0,0,5)=1 move(0,0,1,0,0)=0 move(0,0,1,0,-1)=OUTSIDE move(0,-1,1,0,1)=OUTSIDE move(0,0,1,-1,1)=OUTSIDE move(0,-1,1,0,0)=OUTSIDE move(0,0,1,-1,0)=OUTSIDE move(0,3,1,3,-1)=OUTSIDE
        move(0,0,1,0,MIN)=OUTSIDE move(0,MIN,1,0,0)=OUTSIDE move(0,0,1,MIN,0)=OUTSIDE move(0,MIN,1,MIN,MIN)=OUTSIDE move(0,3,1,0,-3)=OUTSIDE""");
    Edge.promise(50, "or beyond either's end", """
        sheet(0,1,3)=1 sheet(1,1,5)=1 cell(0,2,5)=1 move(0,0,1,0,3)=3 move(0,0,1,0,4)=OUTSIDE move(1,0,0,0,3)=3 move(1,0,0,0,4)=OUTSIDE move(0,1,1,0,2)=2 move(0,1,1,0,3)=OUTSIDE move(0,0,1,2,3)=3 move(0,0,1,3,3)=OUTSIDE
        move(0,3,1,5,0)=0 move(0,4,1,0,0)=OUTSIDE move(0,0,1,6,0)=OUTSIDE move(0,3,1,0,1)=OUTSIDE move(0,0,1,5,1)=OUTSIDE""");
    Edge.promise(50, "or beyond either's end", """
        sheet(0,1,40)=1 sheet(1,1,40)=1 cell(0,39,5)=1 move(0,0,1,0,40)=40 move(0,0,1,0,41)=OUTSIDE move(0,1,1,0,MAX)=OUTSIDE move(0,MAX,1,0,1)=OUTSIDE move(0,0,1,MAX,1)=OUTSIDE move(0,MAX,1,MAX,MAX)=OUTSIDE move(0,MAX,1,0,MAX)=OUTSIDE
        move(0,2147483640,1,0,10)=OUTSIDE move(0,0,1,2147483640,10)=OUTSIDE move(0,39,1,39,1)=1 move(0,40,1,40,0)=0 move(0,41,1,0,0)=OUTSIDE""");
  }

  private static void link() {
    Edge.promise(51, "BAD: kind (0 .. 6), n", """
        link(0,0)=1 link(6,0)=2 link(-1,0)=BAD link(7,0)=BAD link(MIN,0)=BAD link(MAX,0)=BAD link(0,6)=BAD link(0,-1)=BAD link(0,MIN)=BAD link(0,MAX)=BAD link(0,5)=3 link(1,999)=4 link(1,-999)=5 link(1,1000)=BAD link(1,-1000)=BAD
        link(1,MIN)=BAD link(1,MAX)=BAD loosen()=5 link(2,0)=1 link(2,5)=2 link(2,6)=BAD link(2,-1)=BAD link(2,MIN)=BAD link(2,MAX)=BAD link(3,0)=3 link(3,5)=4 link(3,6)=BAD link(3,-1)=BAD link(3,MIN)=BAD link(3,MAX)=BAD
        link(5,0)=5 link(5,5)=6 link(5,6)=BAD link(5,-1)=BAD link(5,MIN)=BAD link(5,MAX)=BAD link(4,-1)=7 link(6,6)=8""");
    Edge.promise(51, "FULL: there are 8", EIGHT + "link(0,0)=FULL link(5,0)=FULL link(0,6)=BAD link(7,0)=BAD link(2,6)=BAD count(7)=8 loosen()=8 link(0,0)=1");
    Edge.promise(51, "A LINK comes behind THE CHAIN's: how many there are", "put(0,x) put(1,1) link(2,1)=1 link(1,2)=2 run(0,0)=2 coefficient(0,0,0,0)=2 link(0,2)=3 run(0,0)=2 coefficient(0,0,1,0)=4 coefficient(0,0,0,0)=6");
  }

  private static void run() {
    Edge.promise(52, "BAD", "put(0,x) put(5,y) link(1,2)=1 run(0,0)=1 run(5,1)=1 run(-1,0)=BAD run(6,0)=BAD run(MIN,0)=BAD run(MAX,0)=BAD run(0,-1)=BAD run(0,2)=BAD run(0,MIN)=BAD run(0,MAX)=BAD coefficient(0,1,0,0)=2 loosen()=1 run(0,2)=BAD run(6,1)=BAD");
    Edge.promise(52, "from the first to the last one (way 0), or from the last to the first one (way 1)", """
        put(0,x) put(1,1) link(2,1)=1 link(1,2)=2 link(6,0)=3 run(0,0)=2 coefficient(0,1,0,0)=-2 coefficient(0,0,0,0)=-2 put(0,x) run(0,1)=2 coefficient(0,1,0,0)=-2 coefficient(0,0,0,0)=1""");
    Edge.promise(52, "goes through all LINKS of THE CHAIN", "put(0,x+2) run(0,0)=2 run(0,1)=2 coefficient(0,0,0,0)=2 " + "link(1,2)=1 link(1,2)=2 link(1,2)=3 link(1,2)=4 link(1,2)=5 link(1,2)=6 link(1,2)=7 link(1,2)=8 run(0,0)=2 coefficient(0,1,0,0)=256 run(0,1)=2 coefficient(0,1,0,0)=65536");
    Edge.promise(52, "(SLOTS are as ahead of it till then)", "put(0,x) link(1,5)=1 link(3,0)=2 link(3,0)=3 run(0,0)=1 coefficient(0,1,0,0)=7 run(1,0)=1 coefficient(1,1,0,0)=14");
    Edge.promise(52, "how many TERMS it has", "put(0,x+y) put(1,-x) link(3,1)=1 run(0,0)=1 run(0,0)=2 link(1,0)=2 run(0,0)=0 run(0,1)=1");
  }

  private static void runRefused() {
    Edge.promise(52, "DEEP, WIDE: by the first LINK that it comes to that tells so", """
        big(0,L,3,0,0) put(1,x^4) link(1,2)=1 link(5,1)=2 run(0,0)=WIDE run(0,1)=DEEP put(0,x^3) run(0,0)=DEEP put(0,x^2) run(0,0)=1 lead(0,3)=6 run(2,0)=0 put(0,x^3) link(1,0)=3 run(0,0)=DEEP run(0,1)=0""");
    Edge.promise(52, "DEEP, WIDE", """
        put(0,x^3) put(1,x^3) link(5,1)=1 link(1,999)=2 run(0,0)=1 coefficient(0,6,0,0)=999 run(0,0)=DEEP run(0,1)=DEEP big(0,L,0,0,0) run(0,0)=WIDE run(0,1)=WIDE coefficient(0,0,0,0)=L""");
    Edge.promise(52, "WIDE", "big(0,L,0,0,0) put(1,1) link(2,1)=1 run(0,0)=WIDE put(1,-1) run(0,0)=WIDE loosen()=1 link(3,2)=1 run(0,0)=1 link(6,0)=2 run(0,0)=1 coefficient(0,0,0,0)=-L run(0,1)=1 coefficient(0,0,0,0)=L");
  }

  private static void loosen() {
    Edge.promise(53, "THE CHAIN has no LINKS: how many it had", "loosen()=0 " + EIGHT + "loosen()=8 count(7)=0 loosen()=0 put(0,x) run(0,0)=1 coefficient(0,1,0,0)=1 link(6,0)=1 loosen()=1");
  }

  private static void keep() {
    Edge.promise(54, "All of a KEPT state is kept, in place of one ahead", """
        keep()=0 count(4)=1 put(0,x) put(5,y) gens(1,x;y) keep()=2 clear(0)=1 clear(5)=1 drop()=1 back()=2 coefficient(0,1,0,0)=1 coefficient(5,0,1,0)=1 drop()=1 drop()=0 order(2)=0 clear(0)=1 keep()=0 order(1)=2 gens(2,z) back()=0 count(3)=2 norm(0)=0 norm(5)=1""");
    Edge.promise(54, "how many GENERATORS there are", "keep()=0 gens(0,x;y;z;x^2;y^2;z^2;xy) keep()=7 drop()=6 back()=7 give(6,0)=1 coefficient(0,1,1,0)=1 drop()=6 keep()=6 back()=6");
    Edge.promise(54, "All of a KEPT state is kept", """
        gens(0,x;x^2+y+x) complete(2)=0 keep()=3 drop()=2 drop()=1 drop()=0 order(2)=0 gens(0,z;y;x;xy) back()=3 count(3)=0 count(1)=1 ofGenerator(2,5)=1 ofGenerator(2,6)=3 made(2,0,-1)=-1 made(2,2,-1)=-1 made(2,2,0)=1 grown(2,3,5,7,100)=5 rows(2,0,0)=2""");
    Edge.promise(54, "All of a KEPT state is kept", """
        gens(0,x;x^2+y+x) complete(2)=0 keep()=3 drop()=2 drop()=1 drop()=0 gens(0,y;y^3-z+5y+7) complete(3)=0 count(0)=3 made(2,0,-1)=1 made(2,0,0)=3 made(2,2,-1)=5 big(0,L/4,0,0,0) term(0,1,1,0,0)=2 generator(0)=3
        back()=3 made(2,0,-1)=-1 made(2,0,0)=2 made(2,1,1)=1 made(2,2,-1)=-1 made(2,2,0)=1 ofGenerator(2,5)=1 ofGenerator(2,6)=3 grown(2,3,5,7,100)=5 put(1,999x) member(1)=1 complete(2)=0""");
    Edge.promise(54, "All of a KEPT state is kept", "sheet(0,1,2)=1 link(6,0)=1 put(0,5) subduct(0)=1 keep()=0 count(6)=1 sheet(0,1,3)=1 cell(0,0,9)=1 link(6,0)=2 back()=0 item(0,0)=9 item(0,2)=0 count(7)=2 count(6)=0");
  }

  private static void back() {
    Edge.promise(55, "NONE: nothing is", "put(0,4) subduct(0)=1 put(0,x) back()=NONE count(6)=1 step(0,-1)=4 keep()=0 back()=0 back()=0");
    Edge.promise(55, "All is as was kept (which stays): how many GENERATORS there are", """
        gens(0,x+y;xy;xy^2) keep()=3 complete(6)=0 back()=3 count(1)=0 rows(1,3,0)=0 relations(6)=1 rank(0)=1 drop()=2 back()=3 put(3,z) generator(3)=3 clear(0)=1 back()=3 norm(0)=1 norm(3)=0 count(4)=1 drop()=2 drop()=1 drop()=0 order(2)=0 back()=3 count(3)=0 order(2)=STATE""");
    Edge.promise(55, "All is as was kept", "keep()=0 gens(0,x;y;z;x^2;y^2;z^2;xy) subduct(0)=1 back()=0 count(0)=0 rank(0)=0 rank(1)=0 monoid(6,2)=0 relations(6)=0 norm(0)=0 count(6)=0 witness(0)=NONE closed()=63 certified(1)=1 complete(6)=0");
  }

  private static void count() {
    Edge.promise(56, "BAD", "count(0)=0 count(7)=0 count(8)=BAD count(-1)=BAD count(MIN)=BAD count(MAX)=BAD");
    Edge.promise(56, "What 0 GENERATORS, 1 those that are GROWN", "gens(0,x;x^2+y) count(0)=2 count(1)=0 complete(2)=0 count(0)=3 count(1)=1 drop()=2 count(1)=0 gens(0,y;y^3;y^4;z^3;z^4) count(0)=7");
    Edge.promise(56, "2 STEPS of the WITNESS (0: there is none)", "count(2)=0 count(6)=0 put(0,x) subduct(0)=0 count(2)=0 count(6)=1 put(0,x+1) subduct(0)=1 count(2)=1 keep()=0 back()=0 count(2)=0 count(6)=0");
    Edge.promise(56, "3 ORDER, 4 1 if something is KEPT, else 0", "count(3)=0 order(2)=0 count(3)=2 count(4)=0 keep()=0 count(4)=1 back()=0 count(4)=1");
    Edge.promise(56, "5 SHEETS that aren't missing", "count(5)=0 sheet(3,0,0)=1 count(5)=1 sheet(0,1,40)=1 sheet(1,0,1)=1 sheet(2,1,1)=1 count(5)=4 sheet(3,-1,0)=1 sheet(3,-1,0)=1 count(5)=3");
    Edge.promise(56, "7 LINKS of THE CHAIN", "count(7)=0 " + EIGHT + "count(7)=8 link(0,0)=FULL count(7)=8 loosen()=8 count(7)=0");
  }
}
