/** Promises 47 to 56. */
public final class SheetsTest {
  public static void main(String[] args) {
    sheet();
    cellAndItem();
    move();
    link();
    run();
    loosen();
    keepAndBack();
    count();
    Script.end();
  }

  private static void sheet() {
    Script.promise(47, "sizes", """
        sheet(0,0,40)=1 item(0,39)=0 item(0,40)=NO sheet(0,1,0)=1 item(0,0)=NO count(5)=1 sheet(3,1,1)=1 count(5)=2 cell(3,0,5)=1 sheet(3,1,1)=1 item(3,0)=0
        sheet(3,-1,1)=1 count(5)=1 sheet(3,-1,99)=1 sheet(3,-1,-99)=1 item(3,0)=NO""");
    Script.promise(47, "refused", """
        sheet(0,0,5)=1 cell(0,0,7)=1 sheet(-1,0,1)=BAD sheet(4,0,1)=BAD sheet(0,2,1)=BAD sheet(0,-2,1)=BAD sheet(0,0,41)=BAD sheet(0,1,MAX)=BAD
        sheet(0,0,-1)=SIZE sheet(0,1,MIN)=SIZE sheet(4,0,-1)=BAD sheet(0,2,-1)=BAD sheet(4,-1,0)=BAD item(0,0)=7 count(5)=1""");
    Script.promise(47, "what was there is gone", "sheet(0,1,5)=1 cell(0,4,9)=1 sheet(0,1,2)=1 sheet(0,1,5)=1 item(0,4)=0 cell(0,4,9)=1 sheet(0,-1,0)=1 sheet(0,0,5)=1 item(0,4)=0");
  }

  private static void cellAndItem() {
    Script.promise(48, "bytes and ints", """
        sheet(0,0,3)=1 sheet(1,1,3)=1 cell(0,0,127)=1 item(0,0)=127 cell(0,0,128)=1 item(0,0)=-128 cell(0,2,-1)=1 item(0,2)=-1 cell(0,1,256)=1 item(0,1)=0
        cell(0,1,MIN)=1 item(0,1)=0 cell(0,1,MAX)=1 item(0,1)=-1 cell(1,0,MIN)=1 item(1,0)=MIN cell(1,2,MAX)=1 item(1,2)=MAX""");
    Script.promise(48, "refused", """
        sheet(0,0,3)=1 cell(-1,0,1)=BAD cell(4,0,1)=BAD cell(1,0,1)=NOTHING cell(1,-1,1)=NOTHING cell(0,3,1)=OUTSIDE cell(0,-1,1)=OUTSIDE cell(0,MAX,1)=OUTSIDE
        cell(0,MIN,1)=OUTSIDE""");
    Script.promise(49, "none", "sheet(0,0,3)=1 item(0,2)=0 item(0,3)=NO item(0,-1)=NO item(1,0)=NO item(-1,0)=NO item(4,0)=NO item(0,MIN)=NO item(0,MAX)=NO");
  }

  private static void move() {
    String five = "sheet(0,1,5)=1 cell(0,0,1)=1 cell(0,1,2)=1 cell(0,2,3)=1 cell(0,3,4)=1 cell(0,4,5)=1 ";
    Script.promise(50, "forth", five + "move(0,0,0,1,4)=4 item(0,0)=1 item(0,1)=1 item(0,2)=2 item(0,3)=3 item(0,4)=4");
    Script.promise(50, "back", five + "move(0,1,0,0,4)=4 item(0,0)=2 item(0,1)=3 item(0,2)=4 item(0,3)=5 item(0,4)=5");
    Script.promise(50, "another", five + "sheet(1,1,3)=1 move(0,2,1,0,3)=3 item(1,0)=3 item(1,2)=5 item(0,2)=3 move(1,0,0,4,1)=1 item(0,4)=3 move(0,5,1,3,0)=0 move(0,0,0,0,5)=5");
    Script.promise(50, "refused", five + """
        sheet(1,0,9)=1 sheet(2,1,3)=1 move(-1,0,0,0,1)=BAD move(0,0,4,0,1)=BAD move(4,0,3,0,1)=BAD move(3,0,0,0,1)=NOTHING move(0,0,3,0,-1)=NOTHING
        move(0,0,1,0,1)=SORT move(0,0,1,0,99)=SORT move(0,0,2,0,4)=OUTSIDE move(2,0,0,0,4)=OUTSIDE move(0,3,0,0,3)=OUTSIDE move(0,0,0,3,3)=OUTSIDE
        move(0,0,0,0,-1)=OUTSIDE move(0,-1,0,0,1)=OUTSIDE move(0,0,0,-1,1)=OUTSIDE move(0,6,0,0,0)=OUTSIDE move(0,0,0,6,0)=OUTSIDE
        move(0,MAX,0,0,MAX)=OUTSIDE move(0,1,0,1,MAX)=OUTSIDE move(0,MIN,0,0,0)=OUTSIDE move(0,0,0,0,MIN)=OUTSIDE item(0,0)=1 item(0,4)=5""");
  }

  private static void link() {
    Script.promise(51, "numbers", """
        link(0,5)=1 link(0,6)=BAD link(0,-1)=BAD link(1,999)=2 link(1,-999)=3 link(1,1000)=BAD link(1,-1000)=BAD link(2,5)=4 link(2,6)=BAD link(2,-1)=BAD
        link(3,0)=5 link(3,6)=BAD link(4,MAX)=6 link(5,5)=7 link(5,6)=BAD link(5,-1)=BAD link(6,MIN)=8 link(6,0)=FULL link(0,6)=BAD link(7,0)=BAD link(-1,0)=BAD
        link(3,-1)=BAD count(7)=8""");
  }

  private static void run() {
    Script.promise(52, "each kind", """
        term(0,1,1,0,0)=1 term(1,3,0,1,0)=1 link(0,3)=1 run(0,0)=1 coefficient(0,0,1,0)=1 loosen()=1
        link(1,-5)=1 run(0,0)=1 coefficient(0,0,1,0)=-5 loosen()=1 link(6,0)=1 run(0,0)=1 coefficient(0,0,1,0)=5 loosen()=1
        link(2,1)=1 run(0,0)=1 coefficient(0,0,1,0)=8 term(1,1,0,1,0)=1 run(0,0)=1 coefficient(0,0,1,0)=11 loosen()=1
        link(3,1)=1 term(1,1,0,1,0)=1 run(0,0)=1 coefficient(0,0,1,0)=16 loosen()=1
        link(5,1)=1 clear(1)=1 run(0,0)=1 coefficient(0,0,2,0)=80 loosen()=1 link(1,0)=1 run(0,0)=0 run(0,0)=0""");
    Script.promise(52, "subduction", GeneratorsTest.FAMILY_1 + """
        term(3,1,2,0,0)=1 link(4,77)=1 run(3,0)=2 coefficient(3,0,2,0)=-1 coefficient(3,0,0,2)=-1 count(6)=0 run(3,1)=2""");
    Script.promise(52, "both ways", """
        term(0,1,1,0,0)=1 term(1,1,0,0,0)=1 link(2,1)=1 link(1,2)=2 run(0,0)=2 coefficient(0,1,0,0)=2 coefficient(0,0,0,0)=2
        clear(0)=2 term(0,1,1,0,0)=1 run(0,1)=2 coefficient(0,1,0,0)=2 coefficient(0,0,0,0)=1 run(0,2)=BAD run(0,-1)=BAD run(6,0)=BAD run(-1,0)=BAD""");
    Script.promise(52, "slots are as ahead of it", "term(0,1,1,0,0)=1 link(3,0)=1 link(3,0)=2 link(1,2)=3 link(3,0)=4 run(0,0)=1 coefficient(0,1,0,0)=7");
    Script.promise(52, "no links", "term(0,1,1,0,0)=1 run(0,0)=1 run(1,1)=0 coefficient(0,1,0,0)=1");
    Script.promise(52, "deep and wide", """
        term(0,1,3,0,0)=1 term(1,1,4,0,0)=1 link(5,1)=1 run(0,0)=DEEP coefficient(0,3,0,0)=1 run(2,0)=0 loosen()=1
        big(2,L,0,0,0) link(1,2)=1 link(5,1)=2 run(2,0)=WIDE run(2,1)=WIDE run(0,0)=DEEP norm(2)=L loosen()=2
        link(1,1)=1 link(1,-1)=2 run(2,0)=1 coefficient(2,0,0,0)=-9223372036854775807 loosen()=2 link(6,0)=1 run(2,0)=1 coefficient(2,0,0,0)=L""");
    Script.promise(52, "deep ahead of wide by one link", "big(0,L,3,0,0) term(1,2,4,0,0)=1 link(5,1)=1 run(0,0)=DEEP clear(0)=1 big(0,L,2,0,0) run(0,0)=WIDE");
    Script.promise(52, "the first that tells so", """
        big(0,L,3,0,0) term(1,1,4,0,0)=1 link(1,2)=1 link(5,1)=2 run(0,0)=WIDE run(0,1)=DEEP""");
    Script.promise(52, "wide sums", """
        big(0,L,1,0,0) term(1,-1,1,0,0)=1 link(2,1)=1 run(0,0)=WIDE loosen()=1 link(3,1)=1 run(0,0)=WIDE run(0,1)=WIDE clear(1)=1 run(0,0)=1
        big(0,L-1,1,0,0) term(1,-1,1,0,0)=1 run(0,0)=1 coefficient(0,1,0,0)=L-2 big(0,L/2+1,0,0,0) loosen()=1 link(1,2)=1 run(0,0)=WIDE
        big(0,L/2,0,0,0) run(0,0)=1""");
    Script.promise(52, "wide subduction", """
        term(0,1,1,0,0)=1 term(0,1,0,1,0)=2 generator(0)=0 big(1,L/3+1,1,0,0) link(4,0)=1 run(1,0)=WIDE coefficient(1,1,0,0)=L/3+1
        big(1,L/3,1,0,0) run(1,0)=1 lead(1,1)=1 count(6)=0""");
  }

  private static void loosen() {
    Script.promise(53, "had", "loosen()=0 link(6,0)=1 link(6,0)=2 loosen()=2 count(7)=0 loosen()=0 link(4,0)=1 term(0,1,1,0,0)=1 run(0,0)=1");
  }

  private static void keepAndBack() {
    Script.promise(54, "kept, in place of one ahead", GeneratorsTest.FAMILY_0 + "keep()=3 count(4)=1 complete(4)=0 keep()=4 drop()=3 back()=4 drop()=3 drop()=2 keep()=2 back()=2");
    Script.promise(54, "slots, order, expressions", """
        order(1)=0 term(5,7,0,0,1)=1\s""" + GeneratorsTest.STEPPING + """
        complete(2)=0 keep()=3 drop()=2 drop()=1 drop()=0 order(2)=1 clear(5)=1 clear(0)=1 term(3,1,1,1,1)=1
        back()=3 count(3)=1 coefficient(5,0,0,1)=7 coefficient(0,1,0,0)=1 norm(3)=0 ofGenerator(2,6)=3 made(2,2,-1)=-1 ofGenerator(2,5)=1 rows(0,1,0)=1
        grown(2,5,7,0,100)=7 count(1)=1""");
    Script.promise(54, "what isn't kept", "sheet(0,0,3)=1 keep()=0 link(6,0)=1 sheet(1,1,3)=1 cell(0,0,5)=1 back()=0 count(5)=2 count(7)=1 item(0,0)=5");
    Script.promise(54, "a copy", "term(0,1,1,0,0)=1 keep()=0 term(0,1,0,0,0)=2 back()=0 lead(0,4)=1 term(0,2,0,1,0)=2 back()=0 lead(0,4)=1");
    Script.promise(55, "stays", GeneratorsTest.FAMILY_0 + "keep()=3 complete(6)=0 back()=3 count(0)=3 complete(5)=0 back()=3 rows(1,3,0)=0 relations(6)=1 count(4)=1");
    Script.promise(55, "others stood in their places", GeneratorsTest.STEPPING + """
        complete(2)=0 keep()=3 drop()=2 drop()=1 drop()=0 big(0,4294967296,0,0,0) term(0,1,1,0,0)=2 generator(0)=0
        clear(1)=3 term(1,1,2,0,0)=1 generator(1)=1 complete(2)=3 drop()=1 clear(1)=1 term(1,1,0,1,0)=1 generator(1)=1 term(2,1,0,2,0)=1 term(2,1,0,0,1)=2 generator(2)=2
        complete(2)=0 count(0)=4 ofGenerator(3,5)=1
        back()=3 give(0,5)=1 give(1,5)=3 give(2,5)=1 coefficient(5,0,1,0)=1 ofGenerator(2,5)=1 ofGenerator(2,6)=3
        made(2,0,-1)=-1 made(2,0,0)=2 made(2,1,-1)=1 made(2,1,1)=1 made(2,2,-1)=-1 made(2,2,0)=1 grown(2,3,5,7,100)=5
        complete(2)=0 certified(2)=1 term(4,1,2,0,0)=1 member(4)=1 subduct(4)=1 rank(0)=1 lattice(0,0)=2""");
    Script.promise(55, "none", "term(0,1,0,0,0)=1 subduct(0)=1 back()=NONE count(6)=1 count(4)=0");
    Script.promise(55, "the witness is gone", "term(0,1,0,0,0)=1 keep()=0 subduct(0)=1 count(6)=1 keep()=0 count(6)=1 back()=0 count(6)=0 step(0,-1)=NO");
  }

  private static void count() {
    Script.promise(56, "each", """
        count(-1)=BAD count(8)=BAD count(MAX)=BAD order(2)=0 count(3)=2 family(0)=3 generator(0)=0 generator(1)=1 count(0)=2 count(1)=0 subduct(0)=1 count(2)=1 count(6)=1
        subduct(5)=0 count(2)=0 count(6)=1 keep()=2 count(4)=1 sheet(2,0,0)=1 count(5)=1 link(4,0)=1 count(7)=1""");
  }
}
