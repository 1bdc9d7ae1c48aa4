/** Promises 1 to 17. */
public final class PolynomialsTest {
  public static void main(String[] args) {
    aNewObject();
    order();
    term();
    clear();
    add();
    times();
    turn();
    even();
    orbit();
    like();
    coefficientLeadNorm();
    at();
    poly();
    spread();
    family();
    Script.end();
  }

  private static void aNewObject() {
    Script.promise(1, "slots", """
        norm(0)=0 norm(1)=0 norm(2)=0 norm(3)=0 norm(4)=0 norm(5)=0
        lead(0,4)=0 lead(5,4)=0 lead(3,0)=NONE like(5)=0 orbit(4)=1""");
    Script.promise(1, "the rest", """
        count(0)=0 count(1)=0 count(2)=0 count(3)=0 count(4)=0 count(5)=0 count(6)=0 count(7)=0
        back()=NONE drop()=STATE witness(0)=NONE step(0,-1)=NO give(0,0)=BAD ofGenerator(0,0)=BAD
        item(0,0)=NO cell(3,0,1)=NOTHING loosen()=0 closed()=63 index()=0 rank(0)=0 rank(1)=0
        rows(0,0,0)=1 rows(1,0,0)=0 monoid(0,0)=1 monoid(6,1)=28 relations(6)=0 open(6)=NONE certified(1)=1
        complete(6)=0 wouldGrow(6,2)=1 wouldGrow(6,0)=0""");
  }

  private static void order() {
    Script.promise(2, "what it was", "order(1)=0 order(2)=1 count(3)=2 order(0)=2 order(0)=0 count(3)=0");
    Script.promise(2, "wrong", "order(-1)=BAD order(3)=BAD order(MAX)=BAD order(MIN)=BAD count(3)=0");
    Script.promise(2, "with generators", """
        order(1)=0 family(1)=3 generator(0)=0 order(0)=STATE order(1)=STATE order(3)=BAD count(3)=1
        drop()=0 order(2)=1""");
    Script.promise(2, "the degree first", """
        term(0,1,0,0,3)=1 term(0,1,2,0,0)=2 lead(0,2)=3 order(1)=0 lead(0,2)=3 order(2)=1 lead(0,2)=3""");
    Script.promise(2, "x z and y^2", """
        term(0,1,1,0,1)=1 term(0,1,0,2,0)=2
        lead(0,0)=1 lead(0,1)=0 lead(0,2)=1
        order(1)=0 lead(0,0)=0 lead(0,1)=2 lead(0,2)=0
        order(2)=1 lead(0,0)=1 lead(0,1)=0 lead(0,2)=1""");
    Script.promise(2, "x^2, x y and z^2", """
        term(0,1,2,0,0)=1 term(0,1,1,1,0)=2 lead(0,0)=2 order(1)=0 lead(0,0)=2 order(2)=1 lead(0,0)=1 lead(0,1)=1
        term(0,1,0,0,2)=3 lead(0,2)=2 order(0)=2 lead(0,0)=2 order(1)=0 lead(0,0)=2""");
    String ten = """
        sheet(0,1,40)=1 sheet(1,1,40)=1
        term(0,1,3,0,0)=1 term(0,2,2,1,0)=2 term(0,3,2,0,1)=3 term(0,4,1,2,0)=4 term(0,5,1,1,1)=5
        term(0,6,1,0,2)=6 term(0,7,0,3,0)=7 term(0,8,0,2,1)=8 term(0,9,0,1,2)=9 term(0,10,0,0,3)=10
        """;
    Script.promise(2, "ten terms, order 0", ten + "spread(0,0,0)=10" + firsts(1, 2, 3, 4, 5, 6, 7, 8, 9, 10));
    Script.promise(2, "ten terms, order 1", ten + "order(1)=0 spread(0,0,0)=10" + firsts(1, 2, 4, 7, 3, 5, 8, 6, 9, 10));
    Script.promise(2, "ten terms, order 2", ten + "order(2)=0 spread(0,0,0)=10" + firsts(10, 9, 6, 8, 5, 3, 7, 4, 2, 1));
  }

  private static String firsts(int... coefficients) {
    StringBuilder text = new StringBuilder();
    for (int i = 0; i < coefficients.length; i++) text.append(" item(0,").append(4 * i).append(")=").append(coefficients[i]);
    return text.toString();
  }

  private static void term() {
    Script.promise(3, "how many", """
        term(0,5,1,2,3)=1 term(0,-3,0,0,0)=2 term(0,0,1,0,0)=2 term(0,-5,1,2,3)=1 coefficient(0,0,0,0)=-3 norm(0)=3
        term(0,999,0,0,6)=2 term(0,-999,6,0,0)=3 norm(0)=2001 norm(1)=0""");
    Script.promise(3, "wrong", """
        term(-1,1,0,0,0)=BAD term(6,1,0,0,0)=BAD term(0,1000,0,0,0)=BAD term(0,-1000,0,0,0)=BAD term(0,MIN,0,0,0)=BAD
        term(0,1,7,0,0)=BAD term(0,1,3,3,1)=BAD term(0,1,-1,0,0)=BAD term(0,1,0,-1,3)=BAD term(0,1,0,0,-1)=BAD
        term(0,1,MAX,MAX,2)=BAD term(0,1,MIN,MIN,0)=BAD term(0,0,7,0,0)=BAD lead(0,4)=0""");
    Script.promise(3, "wide", """
        big(0,L-999,1,0,0) term(0,-999,1,0,0)=1 coefficient(0,1,0,0)=L-1998 big(0,L-999,1,0,0)
        term(0,999,0,0,0)=2 norm(0)=L term(0,1,1,0,0)=WIDE term(0,-1,1,0,0)=WIDE term(0,-999,0,0,0)=WIDE
        term(0,0,3,0,0)=2 norm(0)=L term(0,1000,0,0,0)=BAD""");
    Script.promise(3, "just wide", "big(0,L-998,1,0,0) term(0,999,0,0,0)=WIDE term(0,998,0,0,0)=2 norm(0)=L");
  }

  private static void clear() {
    Script.promise(4, "had", "term(2,1,0,0,0)=1 term(2,1,1,0,0)=2 clear(2)=2 clear(2)=0 norm(2)=0 clear(-1)=BAD clear(6)=BAD");
  }

  private static void add() {
    Script.promise(5, "sums", """
        family(5)=3 add(0,2,1)=3 coefficient(0,1,0,0)=2 add(0,2,-2)=2 coefficient(0,1,0,0)=0 coefficient(0,0,1,1)=-1
        coefficient(2,0,1,1)=1 add(3,1,999)=2 coefficient(3,0,0,0)=-1998 add(3,1,-999)=0 add(1,1,2)=2 coefficient(1,3,0,0)=3
        add(1,1,-1)=0 add(0,2,0)=2""");
    Script.promise(5, "wrong", "add(-1,0,1)=BAD add(6,0,1)=BAD add(0,-1,1)=BAD add(0,6,1)=BAD add(0,1,1000)=BAD add(0,1,-1000)=BAD");
    Script.promise(5, "wide", """
        big(0,L,0,0,0) term(1,1,1,0,0)=1 add(0,1,1)=WIDE add(0,1,-1)=WIDE add(0,1,0)=1 add(0,0,-1)=WIDE add(0,2,999)=1 norm(0)=L
        big(2,L/7,0,0,0) add(3,2,7)=1 norm(3)=L clear(3)=1 add(3,2,-7)=1 coefficient(3,0,0,0)=-9223372036854775807
        clear(3)=1 add(3,2,8)=WIDE add(3,2,-8)=WIDE add(2,2,6)=1 norm(2)=L add(0,1,1000)=BAD""");
    Script.promise(5, "one above", """
        big(0,L/7,0,0,0) term(1,1,0,0,0)=1 add(1,0,7)=WIDE add(1,0,-7)=WIDE add(1,0,6)=1""");
  }

  private static void times() {
    Script.promise(6, "products", """
        family(0)=3 times(0,0)=3 coefficient(0,2,0,0)=1 coefficient(0,1,1,0)=2 coefficient(0,0,2,0)=1 coefficient(0,1,0,0)=0
        times(1,2)=1 coefficient(1,2,3,0)=1 coefficient(2,1,2,0)=1 times(3,1)=0 times(1,3)=0
        term(4,1,1,0,0)=1 term(4,-1,0,1,0)=2 term(5,1,1,0,0)=1 term(5,1,0,1,0)=2 times(4,5)=2 coefficient(4,0,2,0)=-1""");
    Script.promise(6, "many terms", """
        term(0,1,1,0,0)=1 term(0,1,0,1,0)=2 term(0,1,0,0,1)=3 term(0,1,0,0,0)=4 times(1,0)=0 add(1,0,1)=4
        times(0,0)=10 times(0,1)=20 times(0,0)=84 coefficient(0,2,2,2)=90 coefficient(0,1,2,3)=60 coefficient(0,1,1,1)=120
        norm(0)=4096 times(0,1)=DEEP norm(0)=4096 times(1,0)=DEEP norm(1)=4""");
    Script.promise(6, "wrong", "times(-1,0)=BAD times(6,0)=BAD times(0,-1)=BAD times(0,6)=BAD");
    Script.promise(6, "deep", """
        term(0,1,0,6,0)=1 term(1,1,0,0,1)=1 times(0,1)=DEEP times(1,0)=DEEP term(2,5,0,0,0)=1 times(0,2)=1 coefficient(0,0,6,0)=5
        times(0,3)=0 term(0,1,6,0,0)=1 times(3,0)=0 term(4,1,3,0,0)=1 times(4,4)=1 coefficient(4,6,0,0)=1""");
    Script.promise(6, "the last place", """
        term(0,1,0,0,6)=1 term(1,1,1,0,0)=1 times(0,1)=DEEP times(1,0)=DEEP term(2,5,0,0,0)=1 times(0,2)=1 coefficient(0,0,0,6)=5
        times(2,0)=1 coefficient(2,0,0,6)=25 clear(1)=1 term(1,1,0,0,3)=1 times(1,1)=1 coefficient(1,0,0,6)=1""");
    Script.promise(6, "wide", """
        big(0,L/7,1,0,0) term(1,-7,1,0,0)=1 times(0,1)=1 coefficient(0,2,0,0)=-9223372036854775807
        big(0,L/7+1,1,0,0) times(0,1)=WIDE coefficient(0,1,0,0)=L/7+1 big(2,L,6,0,0) times(2,1)=DEEP clear(1)=1
        times(2,1)=0 big(2,L,6,0,0) term(1,1,0,0,0)=1 times(2,1)=1 norm(2)=L""");
    Script.promise(6, "the norms count, though the product is less", """
        big(0,2305843009213693952,1,0,0) turn(0,0)=1 big(1,2305843009213693952,0,1,0) add(0,1,1)=2
        term(2,1,1,0,0)=1 term(2,-1,0,1,0)=2 times(0,2)=WIDE times(2,0)=WIDE norm(2)=2
        big(0,2305843009213693951,1,0,0) big(1,2305843009213693951,0,1,0) add(0,1,1)=2 times(0,2)=2 norm(0)=4611686018427387902""");
  }

  private static void turn() {
    Script.promise(7, "each", """
        term(0,2,1,2,3)=1
        turn(0,0)=1 coefficient(0,1,2,3)=2
        turn(0,1)=1 coefficient(0,1,3,2)=2 turn(0,1)=1 coefficient(0,1,2,3)=2
        turn(0,2)=1 coefficient(0,2,1,3)=2 turn(0,2)=1 coefficient(0,1,2,3)=2
        turn(0,3)=1 coefficient(0,3,1,2)=2 turn(0,4)=1 coefficient(0,1,2,3)=2
        turn(0,4)=1 coefficient(0,2,3,1)=2 turn(0,4)=1 coefficient(0,3,1,2)=2 turn(0,4)=1 coefficient(0,1,2,3)=2
        turn(0,5)=1 coefficient(0,3,2,1)=2""");
    Script.promise(7, "x is y, y is z, z is x", """
        term(0,1,1,0,0)=1 term(0,2,0,1,0)=2 term(0,3,0,0,1)=3 term(0,4,0,0,0)=4 turn(0,3)=4
        coefficient(0,0,1,0)=1 coefficient(0,0,0,1)=2 coefficient(0,1,0,0)=3 coefficient(0,0,0,0)=4""");
    Script.promise(7, "wrong", "turn(-1,0)=BAD turn(6,0)=BAD turn(0,-1)=BAD turn(0,6)=BAD turn(1,0)=0");
  }

  private static void even() {
    Script.promise(8, "sums", """
        term(0,1,1,0,0)=1 even(0)=3 coefficient(0,1,0,0)=2 coefficient(0,0,1,0)=2 coefficient(0,0,0,1)=2
        term(1,3,2,1,0)=1 even(1)=6 coefficient(1,2,1,0)=3 coefficient(1,0,1,2)=3 norm(1)=18
        term(2,1,1,1,1)=1 even(2)=1 coefficient(2,1,1,1)=6 term(3,1,1,0,0)=1 term(3,-1,0,0,1)=2 even(3)=0 even(4)=0""");
    Script.promise(8, "wrong", "even(-1)=BAD even(6)=BAD");
    Script.promise(8, "wide", """
        big(0,L/6,0,0,0) even(0)=1 coefficient(0,0,0,0)=9223372036854775806
        big(0,L/6+1,0,0,0) even(0)=WIDE norm(0)=L/6+1 big(1,L/6+1,1,0,0) even(1)=WIDE lead(1,0)=1""");
  }

  private static void orbit() {
    Script.promise(9, "how many", """
        orbit(0)=1 term(0,1,1,0,0)=1 orbit(0)=3 term(0,1,0,1,0)=2 orbit(0)=3 term(0,1,0,0,1)=3 orbit(0)=1
        term(1,1,2,1,0)=1 orbit(1)=6 term(1,1,0,2,1)=2 orbit(1)=6 term(1,1,1,0,2)=3 orbit(1)=2
        term(2,1,1,0,0)=1 term(2,-1,0,1,0)=2 orbit(2)=6 norm(2)=2 orbit(-1)=BAD orbit(6)=BAD""");
  }

  private static void like() {
    Script.promise(10, "the first", """
        like(0)=0 like(5)=0 term(0,1,1,0,0)=1 like(0)=0 like(1)=1 like(5)=1 term(4,1,1,0,0)=1 like(4)=0
        term(4,1,0,0,0)=2 like(4)=4 term(4,-1,0,0,0)=1 term(4,1,1,0,0)=1 like(4)=4 term(5,2,1,0,0)=1 like(5)=4
        like(-1)=BAD like(6)=BAD""");
  }

  private static void coefficientLeadNorm() {
    Script.promise(11, "coefficients", """
        family(5)=3 coefficient(1,3,0,0)=1 coefficient(1,0,0,0)=-2 coefficient(1,0,0,6)=0 coefficient(2,0,1,1)=1
        coefficient(-1,0,0,0)=NO coefficient(6,0,0,0)=NO coefficient(0,7,0,0)=NO coefficient(0,-1,0,0)=NO
        coefficient(0,2,2,3)=NO coefficient(0,0,-1,0)=NO coefficient(0,0,0,-1)=NO coefficient(0,MAX,MAX,2)=NO""");
    Script.promise(12, "each", """
        family(3)=4 lead(3,0)=2 lead(3,1)=1 lead(3,2)=0 lead(3,3)=3 lead(3,4)=3 lead(4,4)=0 lead(4,0)=NONE lead(4,3)=NONE
        lead(-1,0)=BAD lead(6,4)=BAD lead(3,-1)=BAD lead(3,5)=BAD lead(4,5)=BAD term(4,7,0,0,0)=1 lead(4,0)=0 lead(4,3)=0
        order(2)=0 lead(3,0)=1 lead(3,1)=0 lead(3,2)=2""");
    Script.promise(13, "norms", "family(5)=3 norm(0)=2 norm(1)=3 norm(3)=0 norm(-1)=NO norm(6)=NO norm(MIN)=NO");
  }

  private static void at() {
    Script.promise(14, "worths", """
        term(0,-1,2,1,0)=1 term(0,3,0,0,1)=2 at(0,2,3,5,7)=3 at(0,2,3,0,1000000)=999988 at(0,-2,3,-5,100)=73
        at(0,MIN,1,1,1000)=99 at(1,5,5,5,2)=0 at(0,2,3,5,1)=NO at(0,2,3,5,0)=NO at(0,2,3,5,-7)=NO at(0,2,3,5,1000001)=NO
        at(-1,0,0,0,2)=NO at(6,0,0,0,2)=NO""");
    Script.promise(14, "powers of -1", """
        term(0,1,6,0,0)=1 at(0,999999,0,0,1000000)=1 term(0,1,0,5,0)=2 at(0,999999,999999,0,1000000)=0
        big(1,L,0,0,0) at(1,1,1,1,1000000)=775807 at(1,9,9,9,7)=0 at(1,0,0,0,2)=1""");
  }

  private static void poly() {
    Script.promise(15, "told", """
        sheet(0,1,12)=1 cell(0,0,999)=1 cell(0,1,1)=1 cell(0,4,-999)=1 cell(0,5,1)=1 cell(0,8,0)=1 cell(0,11,6)=1
        term(2,1,5,0,0)=1 poly(2,0,0,1)=1 coefficient(2,1,0,0)=999 lead(2,4)=1 poly(2,0,0,2)=1 lead(2,4)=0
        poly(2,0,0,3)=2 lead(2,4)=0 poly(2,0,4,1)=1 coefficient(2,1,0,0)=-999 poly(2,0,8,1)=1 lead(2,4)=0
        poly(2,0,4,1)=1 poly(2,0,MAX,0)=0 lead(2,4)=0 poly(2,0,-1,0)=0""");
    Script.promise(15, "refused", """
        term(2,1,5,0,0)=1 poly(-1,0,0,0)=BAD poly(6,0,0,0)=BAD poly(2,-1,0,0)=BAD poly(2,4,0,0)=BAD poly(2,0,0,-1)=BAD
        poly(2,0,0,11)=BAD poly(2,0,0,0)=NOTHING poly(2,0,0,1)=NOTHING
        sheet(0,1,8)=1 poly(2,0,5,1)=OUTSIDE poly(2,0,4,1)=1 poly(2,0,4,2)=OUTSIDE poly(2,0,-1,1)=OUTSIDE poly(2,0,-4,2)=OUTSIDE
        poly(2,0,8,1)=OUTSIDE poly(2,0,MAX,1)=OUTSIDE poly(2,0,MIN,1)=OUTSIDE poly(2,0,2147483640,3)=OUTSIDE
        cell(0,0,1000)=1 poly(2,0,0,1)=BAD poly(2,0,0,3)=BAD cell(0,0,-1000)=1 poly(2,0,0,1)=BAD cell(0,0,1)=1 poly(2,0,0,3)=OUTSIDE
        cell(0,4,1)=1 cell(0,5,7)=1 poly(2,0,0,2)=BAD poly(2,0,0,3)=BAD cell(0,5,-1)=1 poly(2,0,0,2)=BAD poly(2,0,0,11)=BAD""");
    Script.promise(15, "refused changes nothing", """
        term(2,1,5,0,0)=1 sheet(0,1,8)=1 cell(0,0,3)=1 cell(0,4,5)=1 cell(0,5,7)=1 poly(2,0,0,2)=BAD coefficient(2,5,0,0)=1 lead(2,4)=1
        poly(2,0,1,2)=OUTSIDE coefficient(2,5,0,0)=1 lead(2,4)=1""");
    Script.promise(15, "ten, and bytes", """
        sheet(3,0,40)=1 cell(3,0,-128)=1 cell(3,4,127)=1 cell(3,36,200)=1 cell(3,39,3)=1 poly(0,3,0,10)=2
        coefficient(0,0,0,0)=-1 coefficient(0,0,0,3)=-56 poly(0,3,1,10)=BAD cell(3,4,0)=1 poly(0,3,1,10)=BAD cell(3,36,0)=1 poly(0,3,1,10)=OUTSIDE""");
  }

  private static void spread() {
    Script.promise(16, "as many as have room", """
        family(5)=3 sheet(0,1,11)=1 cell(0,8,77)=1 spread(1,0,0)=2 item(0,0)=1 item(0,1)=3 item(0,2)=0 item(0,3)=0 item(0,4)=-2 item(0,5)=0
        item(0,8)=77 spread(1,0,4)=1 item(0,4)=1 item(0,5)=3 item(0,8)=77 spread(1,0,8)=0 spread(1,0,11)=0 spread(1,0,12)=OUTSIDE
        spread(1,0,-1)=OUTSIDE spread(5,0,0)=0 item(0,0)=1 spread(5,0,11)=0 spread(5,0,12)=OUTSIDE""");
    Script.promise(16, "the last place", "order(2)=0 term(0,7,0,0,6)=1 term(0,8,0,1,5)=2 sheet(0,0,8)=1 spread(0,0,0)=2 item(0,0)=7 item(0,3)=6 item(0,4)=8");
    Script.promise(16, "the first place", "term(0,7,6,0,0)=1 term(0,8,0,0,6)=2 term(0,9,0,0,0)=3 sheet(0,0,12)=1 spread(0,0,0)=3 item(0,0)=7 item(0,1)=6 item(0,4)=8 item(0,7)=6 item(0,8)=9");
    Script.promise(16, "refused", """
        spread(-1,0,0)=BAD spread(6,0,0)=BAD spread(0,-1,0)=BAD spread(0,4,0)=BAD spread(0,0,0)=NOTHING spread(0,0,-1)=NOTHING
        sheet(0,0,0)=1 spread(0,0,0)=0 spread(0,0,1)=OUTSIDE spread(0,0,MAX)=OUTSIDE spread(0,0,MIN)=OUTSIDE""");
    Script.promise(16, "lowest bits", """
        big(0,4294967301,0,1,2) sheet(0,1,4)=1 sheet(1,0,4)=1 spread(0,0,0)=1 item(0,0)=5 item(0,2)=1 item(0,3)=2
        big(0,L,0,1,0) spread(0,0,0)=1 item(0,0)=-1 spread(0,1,0)=1 item(1,0)=-1 item(1,2)=1 big(0,300,1,0,0) spread(0,1,0)=1 item(1,0)=44
        big(0,200,1,0,0) spread(0,1,0)=1 item(1,0)=-56 big(0,2147483648,1,0,0) spread(0,0,0)=1 item(0,0)=-2147483648 spread(0,1,0)=1 item(1,0)=0""");
  }

  private static void family() {
    Script.promise(17, "0", """
        term(3,4,0,0,0)=1 term(0,4,0,0,0)=1 family(0)=3 lead(0,4)=2 coefficient(0,1,0,0)=1 coefficient(0,0,1,0)=1 lead(1,4)=1 coefficient(1,1,1,0)=1
        lead(2,4)=1 coefficient(2,1,2,0)=1 coefficient(3,0,0,0)=4 norm(4)=0""");
    Script.promise(17, "1", """
        family(1)=3 lead(0,4)=3 coefficient(0,1,0,0)=1 coefficient(0,0,1,0)=1 coefficient(0,0,0,1)=1
        lead(1,4)=3 coefficient(1,1,1,0)=1 coefficient(1,1,0,1)=1 coefficient(1,0,1,1)=1 lead(2,4)=1 coefficient(2,1,1,1)=1 norm(3)=0""");
    Script.promise(17, "2", """
        family(2)=3 lead(0,4)=3 coefficient(0,1,0,0)=1 coefficient(0,0,1,0)=1 coefficient(0,0,0,1)=1
        lead(1,4)=3 coefficient(1,2,0,0)=1 coefficient(1,0,2,0)=1 coefficient(1,0,0,2)=1
        lead(2,4)=3 coefficient(2,3,0,0)=1 coefficient(2,0,3,0)=1 coefficient(2,0,0,3)=1 norm(3)=0""");
    Script.promise(17, "3", """
        family(3)=4 lead(0,4)=3 coefficient(0,1,0,0)=1 coefficient(0,0,1,0)=1 coefficient(0,0,0,1)=1
        lead(1,4)=3 coefficient(1,1,1,0)=1 coefficient(1,1,0,1)=1 coefficient(1,0,1,1)=1 lead(2,4)=1 coefficient(2,1,1,1)=1
        lead(3,4)=3 coefficient(3,2,1,0)=1 coefficient(3,0,2,1)=1 coefficient(3,1,0,2)=1 norm(4)=0""");
    Script.promise(17, "4", """
        family(4)=4 norm(0)=1 coefficient(0,2,0,0)=1 norm(1)=1 coefficient(1,1,1,0)=1 norm(2)=1 coefficient(2,0,2,0)=1
        norm(3)=1 coefficient(3,0,0,1)=1 norm(4)=0""");
    Script.promise(17, "5", """
        family(5)=3 norm(0)=2 coefficient(0,2,0,0)=1 coefficient(0,1,0,0)=1 norm(1)=3 coefficient(1,3,0,0)=1 coefficient(1,0,0,0)=-2
        norm(2)=2 coefficient(2,0,1,1)=1 coefficient(2,1,0,0)=1 norm(3)=0""");
    Script.promise(17, "wrong", "term(0,4,0,0,0)=1 family(-1)=BAD family(6)=BAD family(MAX)=BAD family(MIN)=BAD coefficient(0,0,0,0)=4");
  }
}
