import java.util.Arrays;

/**
 * Polynomials with whole coefficients in x, y and z, and the subalgebra that some of them generate.
 * The words in capitals are those of the document.
 */
public final class GrownAlgebra {
  public static final int BAD = -1, NONE = -2, STATE = -3, FULL = -4, WIDE = -5, DEEP = -6, NOTHING = -11, OUTSIDE = -12, SORT = -13, SIZE = -14;
  public static final long NO = Long.MIN_VALUE;

  private static final int SLOT_COUNT = 6;
  private static final int SHEET_COUNT = 4;
  private static final int LINK_LIMIT = 8;
  private static final int FACTOR_LIMIT = 999;
  private static final int TOLD_LIMIT = 10;
  private static final int MODULUS_LIMIT = 1000000;
  private static final int FINE = 0;
  // Stands for all numbers above LARGEST, where a number is 0 or more.
  private static final long ABOVE = -1;
  private static final int ENDS_WELL = 0, ENDS_FULL = 1, ENDS_ROUGH = 2, ENDS_WIDE = 3;

  private static final int[] FAMILY_SIZES = {3, 3, 3, 4, 4, 3};
  // Each six: the family, the slot, the coefficient, the exponents.
  private static final int[] FAMILY_TERMS = {
    0, 0, 1, 1, 0, 0, 0, 0, 1, 0, 1, 0,
    0, 1, 1, 1, 1, 0,
    0, 2, 1, 1, 2, 0,
    1, 0, 1, 1, 0, 0, 1, 0, 1, 0, 1, 0, 1, 0, 1, 0, 0, 1,
    1, 1, 1, 1, 1, 0, 1, 1, 1, 1, 0, 1, 1, 1, 1, 0, 1, 1,
    1, 2, 1, 1, 1, 1,
    2, 0, 1, 1, 0, 0, 2, 0, 1, 0, 1, 0, 2, 0, 1, 0, 0, 1,
    2, 1, 1, 2, 0, 0, 2, 1, 1, 0, 2, 0, 2, 1, 1, 0, 0, 2,
    2, 2, 1, 3, 0, 0, 2, 2, 1, 0, 3, 0, 2, 2, 1, 0, 0, 3,
    3, 0, 1, 1, 0, 0, 3, 0, 1, 0, 1, 0, 3, 0, 1, 0, 0, 1,
    3, 1, 1, 1, 1, 0, 3, 1, 1, 1, 0, 1, 3, 1, 1, 0, 1, 1,
    3, 2, 1, 1, 1, 1,
    3, 3, 1, 2, 1, 0, 3, 3, 1, 0, 2, 1, 3, 3, 1, 1, 0, 2,
    4, 0, 1, 2, 0, 0,
    4, 1, 1, 1, 1, 0,
    4, 2, 1, 0, 2, 0,
    4, 3, 1, 0, 0, 1,
    5, 0, 1, 2, 0, 0, 5, 0, 1, 1, 0, 0,
    5, 1, 1, 3, 0, 0, 5, 1, -2, 0, 0, 0,
    5, 2, 1, 0, 1, 1, 5, 2, 1, 1, 0, 0};

  private final Poly[] slots = new Poly[SLOT_COUNT];
  private final Ranking ranking = new Ranking();
  private final Generators generators = new Generators();
  private final RowTable table = new RowTable();
  private final RelationList relationList = new RelationList();
  private final Lattice grid = new Lattice();
  private final Sheet[] sheets = new Sheet[SHEET_COUNT];
  private final Link[] links = new Link[LINK_LIMIT];
  private final Poly work = new Poly();
  private final Poly spare = new Poly();
  private Steps witnessSteps = new Steps();
  private Steps spareSteps = new Steps();
  private Kept kept = null;
  private boolean witnessed = false;
  private boolean relationsStand = false;
  private boolean gridStands = false;
  private int linkCount = 0;
  private int roundsBegun = 0;

  public GrownAlgebra() {
    for (int s = 0; s < SLOT_COUNT; s++) {
      slots[s] = new Poly();
    }
    for (int i = 0; i < SHEET_COUNT; i++) {
      sheets[i] = new Sheet();
    }
    for (int i = 0; i < LINK_LIMIT; i++) {
      links[i] = new Link();
    }
    table.build(generators);
  }

  // ---- polynomials

  public int order(int o) {
    if (o < 0 || o > 2) {
      return BAD;
    }
    if (generators.size > 0) {
      return STATE;
    }
    int before = ranking.which;
    ranking.become(o);
    return before;
  }

  public int term(int s, int c, int x, int y, int z) {
    if (!isSlot(s) || !isFactor(c) || !Terms.isTerm(x, y, z)) {
      return BAD;
    }
    if (sumOrAbove(slots[s].normNow(), Math.abs(c)) == ABOVE) {
      return WIDE;
    }
    slots[s].at[Terms.placeOf(x, y, z)] += c;
    return slots[s].termCount();
  }

  public int clear(int s) {
    if (!isSlot(s)) {
      return BAD;
    }
    int had = slots[s].termCount();
    slots[s].becomeZero();
    return had;
  }

  public int add(int s, int t, int c) {
    if (!isSlot(s) || !isSlot(t) || !isFactor(c)) {
      return BAD;
    }
    long more = productOrAbove(Math.abs(c), slots[t].normNow());
    if (sumOrAbove(slots[s].normNow(), more) == ABOVE) {
      return WIDE;
    }
    slots[s].addMultiple(slots[t], c);
    return slots[s].termCount();
  }

  public int times(int s, int t) {
    if (!isSlot(s) || !isSlot(t)) {
      return BAD;
    }
    work.becomeLike(slots[s]);
    int refused = multiplyWork(slots[t]);
    return refused != FINE ? refused : putWork(s);
  }

  public int turn(int s, int turn) {
    if (!isSlot(s) || !isTurn(turn)) {
      return BAD;
    }
    work.becomeTurned(slots[s], turn);
    return putWork(s);
  }

  public int even(int s) {
    if (!isSlot(s)) {
      return BAD;
    }
    if (productOrAbove(Terms.TURNS, slots[s].normNow()) == ABOVE) {
      return WIDE;
    }
    work.becomeZero();
    for (int turn = 0; turn < Terms.TURNS; turn++) {
      spare.becomeTurned(slots[s], turn);
      work.addMultiple(spare, 1);
    }
    return putWork(s);
  }

  public int orbit(int s) {
    if (!isSlot(s)) {
      return BAD;
    }
    int unlike = 0;
    for (int turn = 0; turn < Terms.TURNS; turn++) {
      work.becomeTurned(slots[s], turn);
      boolean met = false;
      for (int earlier = 0; earlier < turn && !met; earlier++) {
        spare.becomeTurned(slots[s], earlier);
        met = work.isLike(spare);
      }
      if (!met) {
        unlike++;
      }
    }
    return unlike;
  }

  public int like(int s) {
    if (!isSlot(s)) {
      return BAD;
    }
    for (int t = 0; t < s; t++) {
      if (slots[t].isLike(slots[s])) {
        return t;
      }
    }
    return s;
  }

  public long coefficient(int s, int x, int y, int z) {
    if (!isSlot(s) || !Terms.isTerm(x, y, z)) {
      return NO;
    }
    return slots[s].at[Terms.placeOf(x, y, z)];
  }

  public int lead(int s, int what) {
    if (!isSlot(s) || what < 0 || what > 4) {
      return BAD;
    }
    if (what == 4) {
      return slots[s].termCount();
    }
    int place = ranking.leadOf(slots[s]);
    if (place < 0) {
      return NONE;
    }
    return what == 3 ? Terms.DEGREES[place] : Terms.exponent(place, what);
  }

  public long norm(int s) {
    return isSlot(s) ? slots[s].normNow() : NO;
  }

  public long at(int s, int x, int y, int z, int m) {
    if (!isSlot(s) || !isModulus(m)) {
      return NO;
    }
    return slots[s].worth(x, y, z, m);
  }

  public int poly(int s, int sheet, int from, int n) {
    if (!isSlot(s) || !isSheet(sheet) || n < 0 || n > TOLD_LIMIT) {
      return BAD;
    }
    Sheet told = sheets[sheet];
    if (told.isMissing()) {
      return NOTHING;
    }
    work.becomeZero();
    // A place counts as told even if its coefficients are 0 together: this holds a 1 there.
    spare.becomeZero();
    for (int k = 0; k < n; k++) {
      int refused = readTold(told, from, k);
      if (refused != FINE) {
        return refused;
      }
    }
    slots[s].becomeLike(work);
    return spare.termCount();
  }

  public int spread(int s, int sheet, int from) {
    if (!isSlot(s) || !isSheet(sheet)) {
      return BAD;
    }
    Sheet into = sheets[sheet];
    if (into.isMissing()) {
      return NOTHING;
    }
    if (from < 0 || from > into.size) {
      return OUTSIDE;
    }
    int came = 0;
    int next = from;
    for (int r = Terms.COUNT - 1; r >= 0 && next + 4 <= into.size; r--) {
      int place = ranking.fromLeast[r];
      if (slots[s].at[place] != 0) {
        into.put(next, slots[s].at[place]);
        into.put(next + 1, Terms.exponent(place, 0));
        into.put(next + 2, Terms.exponent(place, 1));
        into.put(next + 3, Terms.exponent(place, 2));
        next += 4;
        came++;
      }
    }
    return came;
  }

  public int family(int family) {
    if (family < 0 || family >= FAMILY_SIZES.length) {
      return BAD;
    }
    int size = FAMILY_SIZES[family];
    for (int s = 0; s < size; s++) {
      slots[s].becomeZero();
    }
    for (int i = 0; i + 5 < FAMILY_TERMS.length; i += 6) {
      if (FAMILY_TERMS[i] == family) {
        int place = Terms.placeOf(FAMILY_TERMS[i + 3], FAMILY_TERMS[i + 4], FAMILY_TERMS[i + 5]);
        slots[FAMILY_TERMS[i + 1]].at[place] += FAMILY_TERMS[i + 2];
      }
    }
    return size;
  }

  // ---- generators

  public int generator(int s) {
    if (!isSlot(s)) {
      return BAD;
    }
    int place = ranking.leadOf(slots[s]);
    // Place 0 is that of the TERM 1.
    if (place <= 0 || slots[s].at[place] != 1 || generators.hasLead(place)) {
      return STATE;
    }
    if (generators.size >= Generators.LIMIT) {
      return FULL;
    }
    generators.append(slots[s], place);
    generatorsChanged();
    return generators.size - 1;
  }

  public int give(int g, int s) {
    if (!isGenerator(g) || !isSlot(s)) {
      return BAD;
    }
    slots[s].becomeLike(generators.polys[g]);
    return slots[s].termCount();
  }

  public int ofGenerator(int g, int what) {
    if (!isGenerator(g)) {
      return BAD;
    }
    int place = generators.leads[g];
    switch (what) {
      case 0:
      case 1:
      case 2:
        return Terms.exponent(place, what);
      case 3:
        return Terms.DEGREES[place];
      case 4:
        return generators.isGrown(g) ? 1 : 0;
      case 5:
        return generators.heights[g];
      case 6:
        return generators.partCounts[g];
      case 7:
        return table.countAt(place) > 1 ? 1 : 0;
      case 8:
        return generators.polys[g].termCount();
      default:
        return BAD;
    }
  }

  public int drop() {
    if (generators.size == 0) {
      return STATE;
    }
    generators.size--;
    witnessed = false;
    generatorsChanged();
    return generators.size;
  }

  public long made(int g, int i, int what) {
    if (!isGenerator(g) || !isStepPart(what) || i < 0 || i >= generators.partCounts[g]) {
      return NO;
    }
    int part = Generators.partPlace(g, i);
    return what < 0 ? generators.partCoefficients[part] : Generators.power(generators.partRows[part], what);
  }

  public long grown(int g, int x, int y, int z, int m) {
    if (!isGenerator(g) || !isModulus(m)) {
      return NO;
    }
    for (int h = 0; h <= g; h++) {
      generators.worths[h] = generators.isGrown(h) ? generators.worthOfParts(h, m) : generators.polys[h].worth(x, y, z, m);
    }
    return generators.worths[g];
  }

  public int closed() {
    int turns = 0;
    for (int turn = 0; turn < Terms.TURNS; turn++) {
      boolean all = true;
      for (int g = 0; g < generators.size && all; g++) {
        work.becomeTurned(generators.polys[g], turn);
        all = generators.has(work);
      }
      if (all) {
        turns |= 1 << turn;
      }
    }
    return turns;
  }

  public int through(int s) {
    if (!isSlot(s)) {
      return BAD;
    }
    if (generators.size < 3) {
      return STATE;
    }
    spareSteps.size = 0;
    for (int place = 0; place < Terms.COUNT; place++) {
      if (slots[s].at[place] != 0) {
        int put = 0;
        for (int letter = 0; letter < 3; letter++) {
          put += Terms.exponent(place, letter) * Generators.unit(letter);
        }
        if (generators.degreeOfRow(put) > Terms.DEGREE_LIMIT) {
          return DEEP;
        }
        spareSteps.append(slots[s].at[place], put);
      }
    }
    return sumSteps(spareSteps) ? putWork(s) : WIDE;
  }

  // ---- the monoid, lattices

  public int rows(int x, int y, int z) {
    if (!Terms.isTerm(x, y, z)) {
      return BAD;
    }
    return table.countAt(Terms.placeOf(x, y, z));
  }

  public int row(int x, int y, int z, int i, int g) {
    if (!Terms.isTerm(x, y, z) || !isGenerator(g)) {
      return BAD;
    }
    int place = Terms.placeOf(x, y, z);
    if (i < 0 || i >= table.countAt(place)) {
      return NONE;
    }
    return Generators.power(table.rowAt(place, i), g);
  }

  public int monoid(int d, int what) {
    if (d < 0 || d > Terms.DEGREE_LIMIT || what < 0 || what > 2) {
      return BAD;
    }
    int with = 0;
    int without = 0;
    int together = 0;
    for (int place = 0; place < Terms.COUNT; place++) {
      if (Terms.DEGREES[place] == d) {
        int here = table.countAt(place);
        together += here;
        with += here > 0 ? 1 : 0;
        without += here > 0 ? 0 : 1;
      }
    }
    return what == 0 ? with : what == 1 ? without : together;
  }

  public int root(int x, int y, int z) {
    if (!Terms.isTerm(x, y, z)) {
      return BAD;
    }
    for (int n = 1; n <= Terms.DEGREE_LIMIT; n++) {
      if (Terms.isTerm(n * x, n * y, n * z) && table.countAt(Terms.placeOf(n * x, n * y, n * z)) > 0) {
        return n;
      }
    }
    return NONE;
  }

  public int rank(int what) {
    if (what < 0 || what > 1) {
      return BAD;
    }
    return what == 0 ? gridNow().relationRank() : gridNow().spanRank();
  }

  public long lattice(int i, int g) {
    if (i < 0 || i >= gridNow().relationRank() || !isGenerator(g)) {
      return NO;
    }
    return grid.relationNumber(i, g);
  }

  public long span(int i, int j) {
    if (i < 0 || i >= gridNow().spanRank() || j < 0 || j > 2) {
      return NO;
    }
    return grid.spanNumber(i, j);
  }

  public int inSpan(int x, int y, int z) {
    if (!isFactor(x) || !isFactor(y) || !isFactor(z)) {
      return BAD;
    }
    return gridNow().spans(x, y, z) ? 1 : 0;
  }

  public long index() {
    return gridNow().pivotProduct();
  }

  // ---- relations, completion

  public int relations(int d) {
    return isBound(d) ? relationsNow().countTo(d) : BAD;
  }

  public int relation(int d, int r, int side, int g) {
    if (!isBound(d) || side < 0 || side > 1 || !isGenerator(g)) {
      return BAD;
    }
    if (!isRelation(d, r)) {
      return NONE;
    }
    return Generators.power(side == 0 ? relationList.lefts[r] : relationList.rights[r], g);
  }

  public long part(int d, int r, int i) {
    if (!isBound(d) || !isRelation(d, r) || i < 0 || i >= gridNow().relationRank()) {
      return NO;
    }
    return grid.relationPart(relationList.lefts[r], relationList.rights[r], i);
  }

  public int difference(int d, int r, int s) {
    if (!isBound(d) || !isSlot(s)) {
      return BAD;
    }
    if (!isRelation(d, r)) {
      return NONE;
    }
    return takeDifference(relationList.lefts[r], relationList.rights[r]) ? putWork(s) : WIDE;
  }

  public int open(int d) {
    if (!isBound(d)) {
      return BAD;
    }
    int all = relationsNow().countTo(d);
    for (int r = 0; r < all; r++) {
      if (!takeDifference(relationList.lefts[r], relationList.rights[r]) || !takeApart(spareSteps)) {
        return WIDE;
      }
      if (!work.isZero()) {
        return r;
      }
    }
    return NONE;
  }

  public int complete(int d) {
    return isBound(d) ? completeTo(d) : BAD;
  }

  public int wouldGrow(int d, int what) {
    if (!isBound(d) || what < 0 || what > 2) {
      return BAD;
    }
    int before = generators.size;
    int end = completeTo(d);
    int after = generators.size;
    // What grew stands behind the others, so that they are as they were when it is gone.
    if (after != before) {
      generators.size = before;
      generatorsChanged();
    }
    return what == 0 ? after : what == 1 ? end : roundsBegun;
  }

  public int certified(int d) {
    if (!isBound(d)) {
      return BAD;
    }
    int free = gridNow().relationRank();
    if (free == 0) {
      return 1;
    }
    if (free > 1) {
      return 0;
    }
    // Only the degree of the side above 0 is asked for: both sides have the same TERM.
    if (grid.sideDegree(generators) > d) {
      return 0;
    }
    if (!takeDifference(grid.sideRow(1), grid.sideRow(-1)) || !takeApart(spareSteps)) {
      return WIDE;
    }
    return work.isZero() ? 1 : 0;
  }

  // ---- subduction

  public int subduct(int s) {
    if (!isSlot(s)) {
      return BAD;
    }
    work.becomeLike(slots[s]);
    if (!takeApart(spareSteps)) {
      return WIDE;
    }
    slots[s].becomeLike(work);
    Steps taken = spareSteps;
    spareSteps = witnessSteps;
    witnessSteps = taken;
    witnessed = true;
    return taken.size;
  }

  public int member(int s) {
    if (!isSlot(s)) {
      return BAD;
    }
    work.becomeLike(slots[s]);
    if (!takeApart(spareSteps)) {
      return WIDE;
    }
    return work.isZero() ? 1 : 0;
  }

  public long step(int i, int what) {
    if (!isStepPart(what) || !witnessed || i < 0 || i >= witnessSteps.size) {
      return NO;
    }
    return what < 0 ? witnessSteps.coefficients[i] : Generators.power(witnessSteps.rowsTaken[i], what);
  }

  public int witness(int s) {
    if (!isSlot(s)) {
      return BAD;
    }
    if (!witnessed) {
      return NONE;
    }
    return sumSteps(witnessSteps) ? putWork(s) : WIDE;
  }

  // ---- sheets, what is kept

  public int sheet(int sheet, int sort, int n) {
    if (!isSheet(sheet) || sort < Sheet.MISSING || sort > Sheet.INTS) {
      return BAD;
    }
    if (sort == Sheet.MISSING) {
      sheets[sheet].become(Sheet.MISSING, 0);
      return 1;
    }
    if (n > Sheet.LIMIT) {
      return BAD;
    }
    if (n < 0) {
      return SIZE;
    }
    sheets[sheet].become(sort, n);
    return 1;
  }

  public int cell(int sheet, int i, int v) {
    if (!isSheet(sheet)) {
      return BAD;
    }
    if (sheets[sheet].isMissing()) {
      return NOTHING;
    }
    if (i < 0 || i >= sheets[sheet].size) {
      return OUTSIDE;
    }
    sheets[sheet].put(i, v);
    return 1;
  }

  public long item(int sheet, int i) {
    if (!isSheet(sheet) || sheets[sheet].isMissing() || i < 0 || i >= sheets[sheet].size) {
      return NO;
    }
    return sheets[sheet].cells[i];
  }

  public int move(int sheet, int i, int other, int j, int n) {
    if (!isSheet(sheet) || !isSheet(other)) {
      return BAD;
    }
    Sheet from = sheets[sheet];
    Sheet into = sheets[other];
    if (from.isMissing() || into.isMissing()) {
      return NOTHING;
    }
    if (from.sort != into.sort) {
      return SORT;
    }
    if (!from.holds(i, n) || !into.holds(j, n)) {
      return OUTSIDE;
    }
    System.arraycopy(from.cells, i, into.cells, j, n);
    return n;
  }

  public int link(int kind, int n) {
    if (!isLink(kind, n)) {
      return BAD;
    }
    if (linkCount >= LINK_LIMIT) {
      return FULL;
    }
    Link last = links[linkCount];
    last.kind = kind;
    last.number = n;
    if (kind == Link.ADDS_HELD || kind == Link.MULTIPLIES) {
      last.held.becomeLike(slots[n]);
    }
    linkCount++;
    return linkCount;
  }

  public int run(int s, int way) {
    if (!isSlot(s) || way < 0 || way > 1) {
      return BAD;
    }
    work.becomeLike(slots[s]);
    for (int i = 0; i < linkCount; i++) {
      int refused = passLink(links[way == 0 ? i : linkCount - 1 - i]);
      if (refused != FINE) {
        return refused;
      }
    }
    return putWork(s);
  }

  public int loosen() {
    int had = linkCount;
    linkCount = 0;
    return had;
  }

  public int keep() {
    if (kept == null) {
      kept = new Kept();
    }
    for (int s = 0; s < SLOT_COUNT; s++) {
      kept.slots[s].becomeLike(slots[s]);
    }
    kept.order = ranking.which;
    kept.generators.becomeLike(generators);
    return generators.size;
  }

  public int back() {
    if (kept == null) {
      return NONE;
    }
    for (int s = 0; s < SLOT_COUNT; s++) {
      slots[s].becomeLike(kept.slots[s]);
    }
    ranking.become(kept.order);
    generators.becomeLike(kept.generators);
    witnessed = false;
    generatorsChanged();
    return generators.size;
  }

  public int count(int what) {
    switch (what) {
      case 0:
        return generators.size;
      case 1:
        return generators.grownCount();
      case 2:
        return witnessed ? witnessSteps.size : 0;
      case 3:
        return ranking.which;
      case 4:
        return kept != null ? 1 : 0;
      case 5:
        return sheetsThere();
      case 6:
        return witnessed ? 1 : 0;
      case 7:
        return linkCount;
      default:
        return BAD;
    }
  }

  // ---- what numbers are as told

  private static boolean isSlot(int s) {
    return s >= 0 && s < SLOT_COUNT;
  }

  private static boolean isSheet(int sheet) {
    return sheet >= 0 && sheet < SHEET_COUNT;
  }

  private static boolean isTurn(int turn) {
    return turn >= 0 && turn < Terms.TURNS;
  }

  private static boolean isFactor(int c) {
    return c >= -FACTOR_LIMIT && c <= FACTOR_LIMIT;
  }

  private static boolean isModulus(int m) {
    return m >= 2 && m <= MODULUS_LIMIT;
  }

  private static boolean isBound(int d) {
    return d >= 1 && d <= Terms.DEGREE_LIMIT;
  }

  private static boolean isStepPart(int what) {
    return what >= -1 && what < Generators.LIMIT;
  }

  private static boolean isLink(int kind, int n) {
    switch (kind) {
      case Link.TURNS:
        return isTurn(n);
      case Link.SCALES:
        return isFactor(n);
      case Link.ADDS_HELD:
      case Link.ADDS_SLOT:
      case Link.MULTIPLIES:
        return isSlot(n);
      case Link.SUBDUCTS:
      case Link.NEGATES:
        return true;
      default:
        return false;
    }
  }

  private boolean isGenerator(int g) {
    return g >= 0 && g < generators.size;
  }

  private boolean isRelation(int d, int r) {
    return r >= 0 && r < relationsNow().countTo(d);
  }

  // ---- numbers of 0 or more, or ABOVE

  private static long sumOrAbove(long a, long b) {
    if (a < 0 || b < 0 || a > Long.MAX_VALUE - b) {
      return ABOVE;
    }
    return a + b;
  }

  private static long productOrAbove(long a, long b) {
    if (a == 0 || b == 0) {
      return 0;
    }
    if (a < 0 || b < 0 || a > Long.MAX_VALUE / b) {
      return ABOVE;
    }
    return a * b;
  }

  // ---- what follows from the generators

  private void generatorsChanged() {
    table.build(generators);
    relationsStand = false;
    gridStands = false;
  }

  private RelationList relationsNow() {
    if (!relationsStand) {
      relationList.build(table, ranking);
      relationsStand = true;
    }
    return relationList;
  }

  private Lattice gridNow() {
    if (!gridStands) {
      grid.build(generators);
      gridStands = true;
    }
    return grid;
  }

  // ---- what calls share; "work" is the polynomial that they work on

  private int putWork(int s) {
    slots[s].becomeLike(work);
    return work.termCount();
  }

  private int multiplyWork(Poly by) {
    if (!work.isZero() && !by.isZero() && work.degree() + by.degree() > Terms.DEGREE_LIMIT) {
      return DEEP;
    }
    if (productOrAbove(work.normNow(), by.normNow()) == ABOVE) {
      return WIDE;
    }
    work.multiplyBy(by);
    return FINE;
  }

  private int addToWork(Poly more) {
    if (sumOrAbove(work.normNow(), more.normNow()) == ABOVE) {
      return WIDE;
    }
    work.addMultiple(more, 1);
    return FINE;
  }

  private int scaleWork(int n) {
    if (productOrAbove(Math.abs(n), work.normNow()) == ABOVE) {
      return WIDE;
    }
    work.scaleBy(n);
    return FINE;
  }

  private int passLink(Link through) {
    switch (through.kind) {
      case Link.TURNS:
        spare.becomeLike(work);
        work.becomeTurned(spare, through.number);
        return FINE;
      case Link.SCALES:
        return scaleWork(through.number);
      case Link.ADDS_HELD:
        return addToWork(through.held);
      case Link.ADDS_SLOT:
        return addToWork(slots[through.number]);
      case Link.SUBDUCTS:
        return takeApart(spareSteps) ? FINE : WIDE;
      case Link.MULTIPLIES:
        return multiplyWork(through.held);
      default:
        work.scaleBy(-1);
        return FINE;
    }
  }

  private int readTold(Sheet told, int from, int k) {
    int first = 4 * k;
    if (from < 0 || from > told.size || from + first + 4 > told.size) {
      return OUTSIDE;
    }
    int c = told.cells[from + first];
    int x = told.cells[from + first + 1];
    int y = told.cells[from + first + 2];
    int z = told.cells[from + first + 3];
    if (!isFactor(c) || !Terms.isTerm(x, y, z)) {
      return BAD;
    }
    int place = Terms.placeOf(x, y, z);
    work.at[place] += c;
    spare.at[place] = 1;
    return FINE;
  }

  private int sheetsThere() {
    int there = 0;
    for (int i = 0; i < SHEET_COUNT; i++) {
      there += sheets[i].isMissing() ? 0 : 1;
    }
    return there;
  }

  /** False: it is WIDE. */
  private boolean takeDifference(int left, int right) {
    if (sumOrAbove(generators.costOf(left), generators.costOf(right)) == ABOVE) {
      return false;
    }
    generators.multiplyOut(left, work);
    generators.multiplyOut(right, spare);
    work.addMultiple(spare, -1);
    return true;
  }

  /** SUBDUCTION of "work", its STEPS in "steps". False: it is WIDE. */
  private boolean takeApart(Steps steps) {
    steps.size = 0;
    for (int r = Terms.COUNT - 1; r >= 0; r--) {
      int place = ranking.fromLeast[r];
      long c = work.at[place];
      if (c != 0 && table.countAt(place) > 0) {
        int first = table.rowAt(place, 0);
        long less = productOrAbove(Math.abs(c), generators.costOf(first));
        if (sumOrAbove(work.normNow(), less) == ABOVE) {
          return false;
        }
        work.addMultiple(table.firstProduct(place, generators), -c);
        steps.append(c, first);
      }
    }
    return true;
  }

  /** "work" becomes the sum of coefficients times PRODUCTS. False: it is WIDE. */
  private boolean sumSteps(Steps steps) {
    long together = 0;
    for (int i = 0; i < steps.size; i++) {
      long here = productOrAbove(Math.abs(steps.coefficients[i]), generators.costOf(steps.rowsTaken[i]));
      together = sumOrAbove(together, here);
    }
    if (together == ABOVE) {
      return false;
    }
    work.becomeZero();
    for (int i = 0; i < steps.size; i++) {
      generators.multiplyOut(steps.rowsTaken[i], spare);
      work.addMultiple(spare, steps.coefficients[i]);
    }
    return true;
  }

  /** COMPLETION to d: how it ends. */
  private int completeTo(int d) {
    roundsBegun = 0;
    // Each ROUND but the last has a GENERATOR more, of which there are at most so many.
    for (int round = 0; round <= Generators.LIMIT; round++) {
      roundsBegun++;
      int before = generators.size;
      int all = relationsNow().countTo(d);
      // The list stays as it is while the ROUND lasts, though the GENERATORS grow.
      for (int r = 0; r < all; r++) {
        int end = settle(relationList.lefts[r], relationList.rights[r]);
        if (end != ENDS_WELL) {
          return end;
        }
      }
      if (generators.size == before) {
        return ENDS_WELL;
      }
    }
    return ENDS_WELL;
  }

  private int settle(int left, int right) {
    if (!takeDifference(left, right) || !takeApart(spareSteps)) {
      return ENDS_WIDE;
    }
    int place = ranking.leadOf(work);
    if (place < 0) {
      return ENDS_WELL;
    }
    long e = work.at[place];
    if (e != 1 && e != -1) {
      return ENDS_ROUGH;
    }
    if (generators.size >= Generators.LIMIT) {
      return ENDS_FULL;
    }
    work.scaleBy(e);
    generators.append(work, place);
    generators.expressLast(e, left, right, spareSteps);
    generatorsChanged();
    return ENDS_WELL;
  }

  /** The 84 TERMS have places: by their DEGREE, then from the greatest down by ORDER 0. */
  private static final class Terms {
    static final int COUNT = 84;
    static final int DEGREE_LIMIT = 6;
    static final int TURNS = 6;
    // How many TERMS are of a lesser DEGREE.
    static final int[] STARTS = {0, 1, 4, 10, 20, 35, 56, 84};
    static final int[] DEGREES = {
      0,
      1, 1, 1,
      2, 2, 2, 2, 2, 2,
      3, 3, 3, 3, 3, 3, 3, 3, 3, 3,
      4, 4, 4, 4, 4, 4, 4, 4, 4, 4, 4, 4, 4, 4, 4,
      5, 5, 5, 5, 5, 5, 5, 5, 5, 5, 5, 5, 5, 5, 5, 5, 5, 5, 5, 5, 5,
      6, 6, 6, 6, 6, 6, 6, 6, 6, 6, 6, 6, 6, 6, 6, 6, 6, 6, 6, 6, 6, 6, 6, 6, 6, 6, 6, 6};
    static final int[] TRIANGLES = {0, 1, 3, 6, 10, 15, 21};
    static final int[] X = {
      0,
      1, 0, 0,
      2, 1, 1, 0, 0, 0,
      3, 2, 2, 1, 1, 1, 0, 0, 0, 0,
      4, 3, 3, 2, 2, 2, 1, 1, 1, 1, 0, 0, 0, 0, 0,
      5, 4, 4, 3, 3, 3, 2, 2, 2, 2, 1, 1, 1, 1, 1, 0, 0, 0, 0, 0, 0,
      6, 5, 5, 4, 4, 4, 3, 3, 3, 3, 2, 2, 2, 2, 2, 1, 1, 1, 1, 1, 1, 0, 0, 0, 0, 0, 0, 0};
    static final int[] Y = {
      0,
      0, 1, 0,
      0, 1, 0, 2, 1, 0,
      0, 1, 0, 2, 1, 0, 3, 2, 1, 0,
      0, 1, 0, 2, 1, 0, 3, 2, 1, 0, 4, 3, 2, 1, 0,
      0, 1, 0, 2, 1, 0, 3, 2, 1, 0, 4, 3, 2, 1, 0, 5, 4, 3, 2, 1, 0,
      0, 1, 0, 2, 1, 0, 3, 2, 1, 0, 4, 3, 2, 1, 0, 5, 4, 3, 2, 1, 0, 6, 5, 4, 3, 2, 1, 0};
    static final int[] Z = {
      0,
      0, 0, 1,
      0, 0, 1, 0, 1, 2,
      0, 0, 1, 0, 1, 2, 0, 1, 2, 3,
      0, 0, 1, 0, 1, 2, 0, 1, 2, 3, 0, 1, 2, 3, 4,
      0, 0, 1, 0, 1, 2, 0, 1, 2, 3, 0, 1, 2, 3, 4, 0, 1, 2, 3, 4, 5,
      0, 0, 1, 0, 1, 2, 0, 1, 2, 3, 0, 1, 2, 3, 4, 0, 1, 2, 3, 4, 5, 0, 1, 2, 3, 4, 5, 6};
    // By each TURN: the letters that become x, y, z.
    static final int[] TURN_SOURCES = {0, 1, 2, 0, 2, 1, 1, 0, 2, 2, 0, 1, 1, 2, 0, 2, 1, 0};

    static boolean isTerm(int x, int y, int z) {
      return isExponent(x) && isExponent(y) && isExponent(z) && x + y + z <= DEGREE_LIMIT;
    }

    private static boolean isExponent(int e) {
      return e >= 0 && e <= DEGREE_LIMIT;
    }

    static int placeOf(int x, int y, int z) {
      return STARTS[x + y + z] + TRIANGLES[y + z] + z;
    }

    static int exponent(int place, int letter) {
      return letter == 0 ? X[place] : letter == 1 ? Y[place] : Z[place];
    }

    static int turnedPlace(int place, int turn) {
      int x = exponent(place, TURN_SOURCES[3 * turn]);
      int y = exponent(place, TURN_SOURCES[3 * turn + 1]);
      int z = exponent(place, TURN_SOURCES[3 * turn + 2]);
      return placeOf(x, y, z);
    }
  }

  /** A POLYNOMIAL: its coefficients by the places of the TERMS. None is ever beyond LARGEST, whatever its sign. */
  private static final class Poly {
    final long[] at = new long[Terms.COUNT];

    void becomeZero() {
      Arrays.fill(at, 0);
    }

    void becomeLike(Poly other) {
      System.arraycopy(other.at, 0, at, 0, Terms.COUNT);
    }

    void becomeTurned(Poly other, int turn) {
      for (int place = 0; place < Terms.COUNT; place++) {
        at[Terms.turnedPlace(place, turn)] = other.at[place];
      }
    }

    boolean isLike(Poly other) {
      for (int place = 0; place < Terms.COUNT; place++) {
        if (at[place] != other.at[place]) {
          return false;
        }
      }
      return true;
    }

    boolean isZero() {
      return degree() < 0;
    }

    /** -1: it is 0. */
    int degree() {
      for (int place = Terms.COUNT - 1; place >= 0; place--) {
        if (at[place] != 0) {
          return Terms.DEGREES[place];
        }
      }
      return -1;
    }

    int termCount() {
      int found = 0;
      for (int place = 0; place < Terms.COUNT; place++) {
        if (at[place] != 0) {
          found++;
        }
      }
      return found;
    }

    long normNow() {
      long together = 0;
      for (int place = 0; place < Terms.COUNT; place++) {
        together += Math.abs(at[place]);
      }
      return together;
    }

    void scaleBy(long c) {
      for (int place = 0; place < Terms.COUNT; place++) {
        at[place] *= c;
      }
    }

    void addMultiple(Poly other, long c) {
      for (int place = 0; place < Terms.COUNT; place++) {
        at[place] += c * other.at[place];
      }
    }

    /** The other one is another object. From the greatest DEGREE down no TERM that still waits is written over. */
    void multiplyBy(Poly other) {
      for (int place = Terms.COUNT - 1; place >= 0; place--) {
        long c = at[place];
        if (c != 0) {
          at[place] = 0;
          int degree = Terms.DEGREES[place];
          int end = Terms.STARTS[Terms.DEGREE_LIMIT - degree + 1];
          for (int i = 0; i < end; i++) {
            if (other.at[i] != 0) {
              int z = Terms.Z[place] + Terms.Z[i];
              int yz = Terms.Y[place] + Terms.Y[i] + z;
              at[Terms.STARTS[degree + Terms.DEGREES[i]] + Terms.TRIANGLES[yz] + z] += c * other.at[i];
            }
          }
        }
      }
    }

    long worth(int x, int y, int z, int m) {
      long together = 0;
      for (int place = 0; place < Terms.COUNT; place++) {
        if (at[place] != 0) {
          long here = Math.floorMod(at[place], (long) m);
          here = timesPower(here, x, Terms.X[place], m);
          here = timesPower(here, y, Terms.Y[place], m);
          here = timesPower(here, z, Terms.Z[place], m);
          together = (together + here) % m;
        }
      }
      return together;
    }

    /** What it is times base to the exponent, modulo m. */
    static long timesPower(long start, long base, int exponent, int m) {
      long factor = Math.floorMod(base, (long) m);
      long here = start;
      for (int i = 0; i < exponent; i++) {
        here = here * factor % m;
      }
      return here;
    }
  }

  /** ORDER: the places of all TERMS from the least up. */
  private static final class Ranking {
    int which = 0;
    final int[] fromLeast = new int[Terms.COUNT];

    Ranking() {
      become(0);
    }

    void become(int o) {
      which = o;
      for (int place = 0; place < Terms.COUNT; place++) {
        int degree = Terms.DEGREES[place];
        int last = Terms.STARTS[degree + 1] - 1;
        int byC = Terms.TRIANGLES[Terms.X[place] + Terms.Y[place]] + Terms.X[place];
        int byA = Terms.TRIANGLES[Terms.Y[place] + Terms.Z[place]] + Terms.Z[place];
        int rank = o == 0 ? last - byA : o == 1 ? Terms.STARTS[degree] + byC : last - byC;
        fromLeast[rank] = place;
      }
    }

    /** The place of the LEADING TERM; -1: it is 0. */
    int leadOf(Poly p) {
      for (int r = Terms.COUNT - 1; r >= 0; r--) {
        if (p.at[fromLeast[r]] != 0) {
          return fromLeast[r];
        }
      }
      return -1;
    }
  }

  /**
   * GENERATORS with EXPRESSIONS.
   * A ROW is one number: three bits for each POWER, GENERATOR 0 highest, so that of two the greater one stands first.
   */
  private static final class Generators {
    static final int LIMIT = 7;
    // Two for the sides of a RELATION, one for a STEP at each TERM.
    static final int PART_LIMIT = 2 + Terms.COUNT;

    int size = 0;
    final Poly[] polys = new Poly[LIMIT];
    final int[] leads = new int[LIMIT];
    final long[] norms = new long[LIMIT];
    final int[] heights = new int[LIMIT];
    final int[] partCounts = new int[LIMIT];
    final long[] partCoefficients = new long[LIMIT * PART_LIMIT];
    final int[] partRows = new int[LIMIT * PART_LIMIT];
    final long[] worths = new long[LIMIT];

    Generators() {
      for (int g = 0; g < LIMIT; g++) {
        polys[g] = new Poly();
      }
    }

    static int unit(int g) {
      return 1 << 3 * (LIMIT - 1 - g);
    }

    static int power(int row, int g) {
      return row >> 3 * (LIMIT - 1 - g) & 7;
    }

    /** The GENERATORS with a POWER above 0, as bits. */
    static int support(int row) {
      int bits = 0;
      for (int g = 0; g < LIMIT; g++) {
        if (power(row, g) > 0) {
          bits |= 1 << g;
        }
      }
      return bits;
    }

    static int partPlace(int g, int i) {
      return g * PART_LIMIT + i;
    }

    void becomeLike(Generators other) {
      size = other.size;
      for (int g = 0; g < size; g++) {
        polys[g].becomeLike(other.polys[g]);
        leads[g] = other.leads[g];
        norms[g] = other.norms[g];
        heights[g] = other.heights[g];
        partCounts[g] = other.partCounts[g];
        System.arraycopy(other.partCoefficients, partPlace(g, 0), partCoefficients, partPlace(g, 0), partCounts[g]);
        System.arraycopy(other.partRows, partPlace(g, 0), partRows, partPlace(g, 0), partCounts[g]);
      }
    }

    /** There are fewer than LIMIT. It is a FIRST one till it is expressed. */
    void append(Poly p, int lead) {
      polys[size].becomeLike(p);
      leads[size] = lead;
      norms[size] = p.normNow();
      heights[size] = 0;
      partCounts[size] = 0;
      size++;
    }

    /** There is one. */
    void expressLast(long e, int left, int right, Steps steps) {
      int g = size - 1;
      appendPart(g, e, left);
      appendPart(g, -e, right);
      for (int i = 0; i < steps.size; i++) {
        appendPart(g, -e * steps.coefficients[i], steps.rowsTaken[i]);
      }
    }

    private void appendPart(int g, long coefficient, int row) {
      if (partCounts[g] >= PART_LIMIT) {
        return;
      }
      int part = partPlace(g, partCounts[g]);
      partCoefficients[part] = coefficient;
      partRows[part] = row;
      partCounts[g]++;
      for (int h = 0; h < g; h++) {
        if (power(row, h) > 0) {
          heights[g] = Math.max(heights[g], heights[h] + 1);
        }
      }
    }

    boolean isGrown(int g) {
      return partCounts[g] > 0;
    }

    int grownCount() {
      int found = 0;
      for (int g = 0; g < size; g++) {
        found += isGrown(g) ? 1 : 0;
      }
      return found;
    }

    boolean hasLead(int place) {
      for (int g = 0; g < size; g++) {
        if (leads[g] == place) {
          return true;
        }
      }
      return false;
    }

    boolean has(Poly p) {
      for (int g = 0; g < size; g++) {
        if (polys[g].isLike(p)) {
          return true;
        }
      }
      return false;
    }

    /** All those ahead have their worths. */
    long worthOfParts(int g, int m) {
      long together = 0;
      for (int i = 0; i < partCounts[g]; i++) {
        int part = partPlace(g, i);
        long here = Math.floorMod(partCoefficients[part], (long) m);
        for (int h = 0; h < g; h++) {
          here = Poly.timesPower(here, worths[h], power(partRows[part], h), m);
        }
        together = (together + here) % m;
      }
      return together;
    }

    int degreeOfRow(int row) {
      int degree = 0;
      for (int g = 0; g < size; g++) {
        degree += power(row, g) * Terms.DEGREES[leads[g]];
      }
      return degree;
    }

    /** COST, or ABOVE. */
    long costOf(int row) {
      long cost = 1;
      for (int g = 0; g < size; g++) {
        int often = power(row, g);
        for (int i = 0; i < often; i++) {
          cost = productOrAbove(cost, norms[g]);
        }
      }
      return cost;
    }

    /** PRODUCT of a ROW whose TERM is of DEGREE 6 at most and whose COST isn't ABOVE. */
    void multiplyOut(int row, Poly into) {
      into.becomeZero();
      into.at[0] = 1;
      for (int g = 0; g < size; g++) {
        int often = power(row, g);
        for (int i = 0; i < often; i++) {
          into.multiplyBy(polys[g]);
        }
      }
    }
  }

  /** The ROWS of all TERMS. */
  private static final class RowTable {
    // So many at most: three LEADING TERMS of DEGREE 1 and four of DEGREE 2 have 344 ROWS, all others fewer.
    static final int LIMIT = 344;

    final int[] sorted = new int[LIMIT];
    final int[] starts = new int[Terms.COUNT + 1];
    private final int[] found = new int[LIMIT];
    private final int[] foundPlaces = new int[LIMIT];
    private final int[] powers = new int[Generators.LIMIT];
    // PRODUCTS of FIRST ROWS, made when they are asked for, and used again when the GENERATORS have changed.
    private final Poly[] products = new Poly[Terms.COUNT];
    private final boolean[] productStands = new boolean[Terms.COUNT];

    int countAt(int place) {
      return starts[place + 1] - starts[place];
    }

    /** The TERM has so many. */
    int rowAt(int place, int i) {
      return sorted[starts[place] + i];
    }

    /** The TERM has a ROW, and the COST of its first one isn't ABOVE. */
    Poly firstProduct(int place, Generators generators) {
      if (products[place] == null) {
        products[place] = new Poly();
      }
      if (!productStands[place]) {
        generators.multiplyOut(rowAt(place, 0), products[place]);
        productStands[place] = true;
      }
      return products[place];
    }

    void build(Generators generators) {
      for (int place = 0; place < Terms.COUNT; place++) {
        productStands[place] = false;
      }
      sortByPlace(find(generators));
    }

    /** Finds all ROWS from the one that stands first on: how many. */
    private int find(Generators generators) {
      int room = fill(generators, 0, Terms.DEGREE_LIMIT);
      int count = 0;
      boolean more = true;
      while (more && count < LIMIT) {
        note(generators, count);
        count++;
        more = false;
        for (int g = generators.size - 1; g >= 0 && !more; g--) {
          if (powers[g] > 0) {
            powers[g]--;
            room = fill(generators, g + 1, room + Terms.DEGREES[generators.leads[g]]);
            more = true;
          }
        }
      }
      return count;
    }

    /** The greatest POWERS from GENERATOR g on that a DEGREE has room for: the room that is left. */
    private int fill(Generators generators, int g, int room) {
      int left = room;
      for (int h = g; h < generators.size; h++) {
        int degree = Terms.DEGREES[generators.leads[h]];
        powers[h] = degree > 0 ? left / degree : 0;
        left -= powers[h] * degree;
      }
      return left;
    }

    private void note(Generators generators, int i) {
      int row = 0;
      int x = 0;
      int y = 0;
      int z = 0;
      for (int g = 0; g < generators.size; g++) {
        row += powers[g] * Generators.unit(g);
        x += powers[g] * Terms.X[generators.leads[g]];
        y += powers[g] * Terms.Y[generators.leads[g]];
        z += powers[g] * Terms.Z[generators.leads[g]];
      }
      found[i] = row;
      foundPlaces[i] = Terms.placeOf(x, y, z);
    }

    /** ROWS of one TERM stay in the order in which they were found. */
    private void sortByPlace(int count) {
      Arrays.fill(starts, 0);
      for (int i = 0; i < count; i++) {
        starts[foundPlaces[i]]++;
      }
      for (int place = 1; place <= Terms.COUNT; place++) {
        starts[place] += starts[place - 1];
      }
      for (int i = count - 1; i >= 0; i--) {
        int place = foundPlaces[i];
        starts[place]--;
        sorted[starts[place]] = found[i];
      }
    }
  }

  /** RELATIONS TO 6. Those TO a lesser DEGREE are the first ones of them, since TERMS of lesser DEGREE are lesser. */
  private static final class RelationList {
    final int[] lefts = new int[RowTable.LIMIT];
    final int[] rights = new int[RowTable.LIMIT];
    private final int[] counts = new int[Terms.DEGREE_LIMIT + 1];
    // GROUPS have no GENERATOR in common, so there are no more than these.
    private final int[] groupSupports = new int[Generators.LIMIT];
    private final int[] groupHeads = new int[Generators.LIMIT];

    int countTo(int d) {
      return counts[d];
    }

    void build(RowTable table, Ranking ranking) {
      int size = 0;
      for (int r = 0; r < Terms.COUNT; r++) {
        int place = ranking.fromLeast[r];
        int groups = findGroups(table, place);
        for (int k = 1; k < groups && size < RowTable.LIMIT; k++) {
          lefts[size] = groupHeads[0];
          rights[size] = groupHeads[k];
          size++;
        }
        counts[Terms.DEGREES[place]] = size;
      }
    }

    private int findGroups(RowTable table, int place) {
      int groups = 0;
      int all = table.countAt(place);
      for (int i = 0; i < all; i++) {
        groups = join(table.rowAt(place, i), groups);
      }
      return groups;
    }

    /** All GROUPS that the ROW has a GENERATOR in common with are one, in the place of the first of them: how many are left. */
    private int join(int row, int groups) {
      int bits = Generators.support(row);
      int home = -1;
      int left = 0;
      for (int k = 0; k < groups; k++) {
        boolean joins = (groupSupports[k] & bits) != 0;
        if (joins && home >= 0) {
          groupSupports[home] |= groupSupports[k];
        } else {
          groupSupports[left] = joins ? groupSupports[k] | bits : groupSupports[k];
          groupHeads[left] = groupHeads[k];
          home = joins ? left : home;
          left++;
        }
      }
      if (home < 0 && left < Generators.LIMIT) {
        groupSupports[left] = bits;
        groupHeads[left] = row;
        left++;
      }
      return left;
    }
  }

  /**
   * The BASIS of the rows that have a LEADING TERM's exponents and, behind them, a 1 in the place of its GENERATOR.
   * Those of its rows whose PIVOT is among the exponents are the BASIS of THE SPAN there;
   * the others, with exponents 0, 0, 0, are that of THE LATTICE OF RELATIONS.
   */
  private static final class Lattice {
    private static final int EXPONENTS = 3;
    private static final int WIDTH = EXPONENTS + Generators.LIMIT;
    // The remainders of two numbers of 63 bits come to 0 in fewer.
    private static final int EUCLID_LIMIT = 200;

    // The row with its PIVOT in column c is number c here; 0 stands for the PIVOT if there is none.
    private final long[][] byPivot = new long[WIDTH][WIDTH];
    private final long[] next = new long[WIDTH];

    void build(Generators generators) {
      for (int c = 0; c < WIDTH; c++) {
        Arrays.fill(byPivot[c], 0);
      }
      for (int g = 0; g < generators.size; g++) {
        Arrays.fill(next, 0);
        for (int letter = 0; letter < EXPONENTS; letter++) {
          next[letter] = Terms.exponent(generators.leads[g], letter);
        }
        next[EXPONENTS + g] = 1;
        insertNext();
        reduceAll();
      }
    }

    private void insertNext() {
      for (int c = 0; c < WIDTH; c++) {
        // With no row there yet the first exchange puts the new one in its place.
        for (int i = 0; i < EUCLID_LIMIT && next[c] != 0; i++) {
          subtract(byPivot[c], next, byPivot[c][c] / next[c]);
          exchangeNext(byPivot[c]);
        }
        if (byPivot[c][c] < 0) {
          negate(byPivot[c]);
        }
      }
    }

    private void exchangeNext(long[] row) {
      for (int c = 0; c < WIDTH; c++) {
        long number = row[c];
        row[c] = next[c];
        next[c] = number;
      }
    }

    private static void negate(long[] row) {
      for (int c = 0; c < WIDTH; c++) {
        row[c] = -row[c];
      }
    }

    private static void subtract(long[] from, long[] row, long often) {
      for (int c = 0; c < WIDTH; c++) {
        from[c] -= often * row[c];
      }
    }

    private void reduceAll() {
      for (int above = 0; above < WIDTH; above++) {
        for (int c = above + 1; c < WIDTH; c++) {
          if (byPivot[c][c] > 0) {
            subtract(byPivot[above], byPivot[c], Math.floorDiv(byPivot[above][c], byPivot[c][c]));
          }
        }
      }
    }

    private int pivotsIn(int from, int end) {
      int found = 0;
      for (int c = from; c < end; c++) {
        found += byPivot[c][c] > 0 ? 1 : 0;
      }
      return found;
    }

    /** The column of PIVOT i of those from a column on; 0: there is none such. */
    private int pivotColumn(int from, int i) {
      int ahead = 0;
      for (int c = from; c < WIDTH; c++) {
        if (byPivot[c][c] > 0) {
          if (ahead == i) {
            return c;
          }
          ahead++;
        }
      }
      return 0;
    }

    int spanRank() {
      return pivotsIn(0, EXPONENTS);
    }

    int relationRank() {
      return pivotsIn(EXPONENTS, WIDTH);
    }

    long spanNumber(int i, int j) {
      return byPivot[pivotColumn(0, i)][j];
    }

    long relationNumber(int i, int g) {
      return byPivot[pivotColumn(EXPONENTS, i)][EXPONENTS + g];
    }

    long pivotProduct() {
      return byPivot[0][0] * byPivot[1][1] * byPivot[2][2];
    }

    boolean spans(int x, int y, int z) {
      Arrays.fill(next, 0);
      next[0] = x;
      next[1] = y;
      next[2] = z;
      for (int c = 0; c < EXPONENTS; c++) {
        if (byPivot[c][c] > 0) {
          subtract(next, byPivot[c], next[c] / byPivot[c][c]);
        }
        if (next[c] != 0) {
          return false;
        }
      }
      return true;
    }

    /** How often row i of the BASIS is in a RELATION. */
    long relationPart(int left, int right, int i) {
      Arrays.fill(next, 0);
      for (int g = 0; g < Generators.LIMIT; g++) {
        next[EXPONENTS + g] = Generators.power(left, g) - Generators.power(right, g);
      }
      int wanted = pivotColumn(EXPONENTS, i);
      long often = 0;
      for (int c = EXPONENTS; c <= wanted; c++) {
        if (byPivot[c][c] > 0) {
          often = next[c] / byPivot[c][c];
          subtract(next, byPivot[c], often);
        }
      }
      return often;
    }

    /** DEGREE of the ROW of what is above 0 in the first row of RELATIONS. */
    long sideDegree(Generators generators) {
      long degree = 0;
      for (int g = 0; g < generators.size; g++) {
        degree += Math.max(relationNumber(0, g), 0) * Terms.DEGREES[generators.leads[g]];
      }
      return degree;
    }

    /** The ROW of what has that sign in the first row of RELATIONS, whose DEGREE is 6 at most. */
    int sideRow(int sign) {
      int row = 0;
      for (int g = 0; g < Generators.LIMIT; g++) {
        row += (int) Math.max(sign * relationNumber(0, g), 0) * Generators.unit(g);
      }
      return row;
    }
  }

  /** STEPS, one at most for each TERM. */
  private static final class Steps {
    int size = 0;
    final long[] coefficients = new long[Terms.COUNT];
    final int[] rowsTaken = new int[Terms.COUNT];

    void append(long coefficient, int row) {
      if (size < Terms.COUNT) {
        coefficients[size] = coefficient;
        rowsTaken[size] = row;
        size++;
      }
    }
  }

  /** A SHEET. */
  private static final class Sheet {
    static final int LIMIT = 40;
    static final int MISSING = -1, BYTES = 0, INTS = 1;

    int sort = MISSING;
    int size = 0;
    final int[] cells = new int[LIMIT];

    void become(int newSort, int n) {
      sort = newSort;
      size = n;
      Arrays.fill(cells, 0);
    }

    boolean isMissing() {
      return sort == MISSING;
    }

    void put(int i, long v) {
      cells[i] = sort == BYTES ? (byte) v : (int) v;
    }

    boolean holds(int from, int n) {
      return n >= 0 && from >= 0 && from <= size && n <= size - from;
    }
  }

  /** A LINK of THE CHAIN. */
  private static final class Link {
    static final int TURNS = 0, SCALES = 1, ADDS_HELD = 2, ADDS_SLOT = 3, SUBDUCTS = 4, MULTIPLIES = 5, NEGATES = 6;

    int kind = 0;
    int number = 0;
    final Poly held = new Poly();
  }

  /** What a KEPT state has. */
  private static final class Kept {
    int order = 0;
    final Poly[] slots = new Poly[SLOT_COUNT];
    final Generators generators = new Generators();

    Kept() {
      for (int s = 0; s < SLOT_COUNT; s++) {
        slots[s] = new Poly();
      }
    }
  }
}
