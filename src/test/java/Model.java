import java.math.BigInteger;
import java.util.ArrayList;
import java.util.Collections;
import java.util.Comparator;
import java.util.HashMap;
import java.util.HashSet;
import java.util.List;
import java.util.Map;
import java.util.Set;

/**
 * The document once more, as plainly as it can be said, without bounds of numbers and without any thought of speed:
 * what the class answers is compared with what this answers.
 */
public final class Model {
  static final int BAD = -1, NONE = -2, STATE = -3, FULL = -4, WIDE = -5, DEEP = -6, NOTHING = -11, OUTSIDE = -12, SORT = -13, SIZE = -14;
  static final long NO = Long.MIN_VALUE;
  static final BigInteger LARGEST = new BigInteger("9223372036854775807");
  static final BigInteger ZERO = BigInteger.ZERO, ONE = BigInteger.ONE;
  static final int[][] LETTERS = {{0, 1, 2}, {0, 2, 1}, {1, 0, 2}, {1, 2, 0}, {2, 0, 1}, {2, 1, 0}};

  record Term(int a, int b, int c) {
    int degree() {
      return a + b + c;
    }

    int[] exponents() {
      return new int[] {a, b, c};
    }

    Term with(Term t) {
      return new Term(a + t.a, b + t.b, c + t.c);
    }

    Term by(int turn) {
      int[] e = new int[3];
      e[LETTERS[turn][0]] = a;
      e[LETTERS[turn][1]] = b;
      e[LETTERS[turn][2]] = c;
      return new Term(e[0], e[1], e[2]);
    }
  }

  static final class Refusal extends RuntimeException {
    final int answer;

    Refusal(int answer) {
      super(null, null, false, false);
      this.answer = answer;
    }
  }

  /** Never changed once it is made. */
  static final class P {
    static final P NULL = new P(Map.of());
    static final P UNIT = of(ONE, new Term(0, 0, 0));
    final Map<Term, BigInteger> m;

    P(Map<Term, BigInteger> given) {
      m = new HashMap<>();
      given.forEach((t, c) -> {
        if (c.signum() != 0) m.put(t, c);
      });
    }

    static P of(BigInteger c, Term t) {
      return new P(Map.of(t, c));
    }

    static P of(long... quads) {
      P p = NULL;
      for (int i = 0; i < quads.length; i += 4) {
        p = p.plus(of(BigInteger.valueOf(quads[i]), new Term((int) quads[i + 1], (int) quads[i + 2], (int) quads[i + 3])));
      }
      return p;
    }

    BigInteger at(Term t) {
      return m.getOrDefault(t, ZERO);
    }

    P plus(P q) {
      Map<Term, BigInteger> r = new HashMap<>(m);
      q.m.forEach((t, c) -> r.merge(t, c, BigInteger::add));
      return new P(r);
    }

    P times(BigInteger c) {
      Map<Term, BigInteger> r = new HashMap<>();
      m.forEach((t, d) -> r.put(t, d.multiply(c)));
      return new P(r);
    }

    P minus(P q) {
      return plus(q.times(ONE.negate()));
    }

    P times(P q) {
      Map<Term, BigInteger> r = new HashMap<>();
      m.forEach((t, c) -> q.m.forEach((u, d) -> r.merge(t.with(u), c.multiply(d), BigInteger::add)));
      return new P(r);
    }

    P by(int turn) {
      Map<Term, BigInteger> r = new HashMap<>();
      m.forEach((t, c) -> r.put(t.by(turn), c));
      return new P(r);
    }

    BigInteger norm() {
      BigInteger n = ZERO;
      for (BigInteger c : m.values()) n = n.add(c.abs());
      return n;
    }

    int terms() {
      return m.size();
    }

    boolean isZero() {
      return m.isEmpty();
    }

    int degree() {
      int d = -1;
      for (Term t : m.keySet()) d = Math.max(d, t.degree());
      return d;
    }

    BigInteger worth(int x, int y, int z, BigInteger mod) {
      BigInteger w = ZERO;
      for (Map.Entry<Term, BigInteger> e : m.entrySet()) {
        Term t = e.getKey();
        w = w.add(e.getValue().multiply(BigInteger.valueOf(x).pow(t.a)).multiply(BigInteger.valueOf(y).pow(t.b)).multiply(BigInteger.valueOf(z).pow(t.c)));
      }
      return w.mod(mod);
    }
  }

  /** A coefficient and a ROW: a PART, or a STEP. */
  record Part(BigInteger c, List<Integer> row) {
  }

  record Gen(P p, boolean isGrown, List<Part> parts) {
  }

  record Relation(List<Integer> left, List<Integer> right) {
  }

  record Chained(int kind, int n, P held) {
  }

  record Apart(P left, List<Part> steps) {
  }

  record Kept(List<P> slots, int order, List<Gen> gens) {
  }

  List<P> slots = new ArrayList<>(Collections.nCopies(6, P.NULL));
  int order = 0;
  List<Gen> gens = new ArrayList<>();
  List<Part> witness = null;
  long[][] sheets = new long[4][];
  int[] sorts = new int[4];
  List<Chained> chain = new ArrayList<>();
  Kept kept = null;
  Map<Term, List<List<Integer>>> rowsKnown = new HashMap<>();
  List<Gen> rowsKnownFor = null;
  int rounds;

  // ---- the terms of the document

  static List<Term> allTerms() {
    List<Term> all = new ArrayList<>();
    for (int a = 0; a <= 6; a++) for (int b = 0; a + b <= 6; b++) for (int c = 0; a + b + c <= 6; c++) all.add(new Term(a, b, c));
    return all;
  }

  static final List<Term> ALL = allTerms();

  /** Above 0: the first is greater. */
  int compare(Term s, Term t) {
    if (s.degree() != t.degree()) return s.degree() - t.degree();
    if (order == 0) return s.a != t.a ? s.a - t.a : s.b - t.b;
    if (order == 1) return s.c != t.c ? t.c - s.c : t.b - s.b;
    return s.c != t.c ? s.c - t.c : s.b - t.b;
  }

  List<Term> fromLeast() {
    List<Term> all = new ArrayList<>(ALL);
    all.sort(this::compare);
    return all;
  }

  Term lead(P p) {
    return p.m.keySet().stream().max(this::compare).orElse(null);
  }

  static boolean isTerm(long a, long b, long c) {
    return a >= 0 && b >= 0 && c >= 0 && a + b + c <= 6;
  }

  static boolean above(BigInteger n) {
    return n.compareTo(LARGEST) > 0;
  }

  static void refuse(boolean if_, int answer) {
    if (if_) throw new Refusal(answer);
  }

  static boolean slot(int s) {
    return s >= 0 && s <= 5;
  }

  static boolean factor(int c) {
    return c >= -999 && c <= 999;
  }

  boolean gen(int g) {
    return g >= 0 && g < gens.size();
  }

  static BigInteger big(long n) {
    return BigInteger.valueOf(n);
  }

  Term termOf(List<Integer> row) {
    Term t = new Term(0, 0, 0);
    for (int g = 0; g < row.size(); g++) for (int i = 0; i < row.get(g); i++) t = t.with(lead(gens.get(g).p));
    return t;
  }

  P product(List<Integer> row) {
    P p = P.UNIT;
    for (int g = 0; g < row.size(); g++) for (int i = 0; i < row.get(g); i++) p = p.times(gens.get(g).p);
    return p;
  }

  BigInteger cost(List<Integer> row) {
    BigInteger c = ONE;
    for (int g = 0; g < row.size(); g++) c = c.multiply(gens.get(g).p.norm().pow(row.get(g)));
    return c;
  }

  static int compareRows(List<Integer> r, List<Integer> s) {
    for (int g = 0; g < r.size(); g++) if (!r.get(g).equals(s.get(g))) return s.get(g) - r.get(g);
    return 0;
  }

  List<List<Integer>> rowsOf(Term t) {
    if (rowsKnownFor == null || !rowsKnownFor.equals(gens)) {
      rowsKnown.clear();
      rowsKnownFor = new ArrayList<>(gens);
      List<Term> leads = new ArrayList<>();
      for (Gen g : gens) leads.add(lead(g.p));
      for (Term u : ALL) {
        List<List<Integer>> found = new ArrayList<>();
        search(u, leads, new ArrayList<>(), found);
        found.sort(Model::compareRows);
        rowsKnown.put(u, found);
      }
    }
    return rowsKnown.get(t);
  }

  static void search(Term rest, List<Term> leads, List<Integer> row, List<List<Integer>> found) {
    if (row.size() == leads.size()) {
      if (rest.degree() == 0) found.add(new ArrayList<>(row));
      return;
    }
    Term l = leads.get(row.size());
    for (int p = 0; p <= 6; p++) {
      Term left = new Term(rest.a - p * l.a, rest.b - p * l.b, rest.c - p * l.c);
      if (left.a < 0 || left.b < 0 || left.c < 0) break;
      row.add(p);
      search(left, leads, row, found);
      row.remove(row.size() - 1);
    }
  }

  Apart subduction(P p) {
    List<Part> steps = new ArrayList<>();
    List<Term> all = fromLeast();
    Collections.reverse(all);
    for (Term t : all) {
      BigInteger c = p.at(t);
      if (c.signum() != 0 && !rowsOf(t).isEmpty()) {
        List<Integer> row = rowsOf(t).get(0);
        refuse(above(p.norm().add(c.abs().multiply(cost(row)))), WIDE);
        p = p.minus(product(row).times(c));
        steps.add(new Part(c, row));
      }
    }
    return new Apart(p, steps);
  }

  static boolean share(List<Integer> r, List<Integer> s) {
    for (int g = 0; g < r.size(); g++) if (r.get(g) > 0 && s.get(g) > 0) return true;
    return false;
  }

  /** First rows of the groups, as they stand. */
  static List<List<Integer>> heads(List<List<Integer>> rows) {
    int n = rows.size();
    int[] group = new int[n];
    for (int i = 0; i < n; i++) group[i] = i;
    for (boolean more = true; more; ) {
      more = false;
      for (int i = 0; i < n; i++) {
        for (int j = 0; j < n; j++) {
          if (share(rows.get(i), rows.get(j)) && group[j] < group[i]) {
            group[i] = group[j];
            more = true;
          }
        }
      }
    }
    List<List<Integer>> heads = new ArrayList<>();
    for (int i = 0; i < n; i++) if (group[i] == i) heads.add(rows.get(i));
    return heads;
  }

  List<Relation> relationsTo(int d) {
    List<Relation> all = new ArrayList<>();
    for (Term t : fromLeast()) {
      if (t.degree() <= d) {
        List<List<Integer>> heads = heads(rowsOf(t));
        for (int k = 1; k < heads.size(); k++) all.add(new Relation(heads.get(0), heads.get(k)));
      }
    }
    return all;
  }

  P difference(List<Integer> left, List<Integer> right) {
    refuse(above(cost(left).add(cost(right))), WIDE);
    return product(left).minus(product(right));
  }

  List<Integer> longer(List<Integer> row) {
    List<Integer> r = new ArrayList<>(row);
    while (r.size() < gens.size()) r.add(0);
    return r;
  }

  int completion(int d) {
    rounds = 0;
    try {
      for (;;) {
        rounds++;
        int grew = 0;
        for (Relation r : relationsTo(d)) {
          Apart apart = subduction(difference(r.left, r.right));
          if (!apart.left.isZero()) {
            BigInteger e = apart.left.at(lead(apart.left));
            if (!e.abs().equals(ONE)) return 2;
            if (gens.size() == 7) return 1;
            List<Part> parts = new ArrayList<>();
            parts.add(new Part(e, r.left));
            parts.add(new Part(e.negate(), r.right));
            for (Part step : apart.steps) parts.add(new Part(e.negate().multiply(step.c), step.row));
            gens.add(new Gen(apart.left.times(e), true, parts));
            grew++;
          }
        }
        if (grew == 0) return 0;
      }
    } catch (Refusal wide) {
      return 3;
    }
  }

  int height(Gen g) {
    if (!g.isGrown) return 0;
    int most = 0;
    for (Part p : g.parts) for (int h = 0; h < p.row.size(); h++) if (p.row.get(h) > 0) most = Math.max(most, height(gens.get(h)));
    return most + 1;
  }

  // ---- lattices, by eliminations of the plainest kind

  static void subtract(BigInteger[] from, BigInteger[] row, BigInteger q) {
    for (int i = 0; i < from.length; i++) from[i] = from[i].subtract(q.multiply(row[i]));
  }

  static List<BigInteger[]> basis(List<BigInteger[]> given, int width) {
    List<BigInteger[]> rest = new ArrayList<>();
    for (BigInteger[] r : given) rest.add(r.clone());
    List<BigInteger[]> done = new ArrayList<>();
    for (int col = 0; col < width; col++) {
      int c = col;
      for (;;) {
        BigInteger[] least = null;
        int other = 0;
        for (BigInteger[] r : rest) {
          if (r[c].signum() != 0) {
            other++;
            if (least == null || r[c].abs().compareTo(least[c].abs()) < 0) least = r;
          }
        }
        if (other == 0) break;
        if (other == 1) {
          rest.remove(least);
          if (least[c].signum() < 0) for (int i = 0; i < width; i++) least[i] = least[i].negate();
          for (BigInteger[] r : done) {
            BigInteger m = r[c].mod(least[c]);
            subtract(r, least, r[c].subtract(m).divide(least[c]));
          }
          done.add(least);
          break;
        }
        for (BigInteger[] r : rest) if (r != least) subtract(r, least, r[c].divide(least[c]));
      }
    }
    return done;
  }

  List<BigInteger[]> exponentRows() {
    List<BigInteger[]> rows = new ArrayList<>();
    for (Gen g : gens) {
      Term t = lead(g.p);
      rows.add(new BigInteger[] {big(t.a), big(t.b), big(t.c)});
    }
    return rows;
  }

  List<BigInteger[]> spanBasis() {
    return basis(exponentRows(), 3);
  }

  /** Begins with all rows, and keeps of them, for one exponent after the other, those that make it 0. */
  List<BigInteger[]> relationBasis() {
    int n = gens.size();
    List<BigInteger[]> exponents = exponentRows();
    List<BigInteger[]> rows = new ArrayList<>();
    for (int g = 0; g < n; g++) {
      BigInteger[] r = new BigInteger[n];
      for (int h = 0; h < n; h++) r[h] = g == h ? ONE : ZERO;
      rows.add(r);
    }
    for (int j = 0; j < 3; j++) {
      for (;;) {
        BigInteger[] least = null;
        BigInteger worth = null;
        int other = 0;
        for (BigInteger[] r : rows) {
          BigInteger w = dot(r, exponents, j);
          if (w.signum() != 0) {
            other++;
            if (least == null || w.abs().compareTo(worth.abs()) < 0) {
              least = r;
              worth = w;
            }
          }
        }
        if (other == 0) break;
        if (other == 1) {
          rows.remove(least);
          break;
        }
        for (BigInteger[] r : rows) if (r != least) subtract(r, least, dot(r, exponents, j).divide(worth));
      }
    }
    return basis(rows, n);
  }

  static BigInteger dot(BigInteger[] r, List<BigInteger[]> exponents, int j) {
    BigInteger w = ZERO;
    for (int g = 0; g < r.length; g++) w = w.add(r[g].multiply(exponents.get(g)[j]));
    return w;
  }

  /** How often each row of a basis is in a row; null: it is not of the lattice. */
  static BigInteger[] parts(BigInteger[] row, List<BigInteger[]> basis) {
    BigInteger[] rest = row.clone();
    BigInteger[] often = new BigInteger[basis.size()];
    for (int i = 0; i < often.length; i++) {
      BigInteger[] b = basis.get(i);
      int c = 0;
      while (b[c].signum() == 0) c++;
      often[i] = rest[c].divide(b[c]);
      subtract(rest, b, often[i]);
    }
    for (BigInteger r : rest) if (r.signum() != 0) return null;
    return often;
  }

  // ---- the calls

  int put(int s, P p) {
    slots.set(s, p);
    return p.terms();
  }

  public int order(int o) {
    refuse(o < 0 || o > 2, BAD);
    refuse(!gens.isEmpty(), STATE);
    int was = order;
    order = o;
    return was;
  }

  public int term(int s, int c, int x, int y, int z) {
    refuse(!slot(s) || !factor(c) || !isTerm(x, y, z), BAD);
    refuse(above(slots.get(s).norm().add(big(c).abs())), WIDE);
    return put(s, slots.get(s).plus(P.of(big(c), new Term(x, y, z))));
  }

  public int clear(int s) {
    refuse(!slot(s), BAD);
    int had = slots.get(s).terms();
    put(s, P.NULL);
    return had;
  }

  public int add(int s, int t, int c) {
    refuse(!slot(s) || !slot(t) || !factor(c), BAD);
    refuse(above(slots.get(s).norm().add(big(c).abs().multiply(slots.get(t).norm()))), WIDE);
    return put(s, slots.get(s).plus(slots.get(t).times(big(c))));
  }

  static P productOf(P p, P q) {
    P r = p.times(q);
    refuse(r.degree() > 6, DEEP);
    refuse(above(p.norm().multiply(q.norm())), WIDE);
    return r;
  }

  public int times(int s, int t) {
    refuse(!slot(s) || !slot(t), BAD);
    return put(s, productOf(slots.get(s), slots.get(t)));
  }

  public int turn(int s, int turn) {
    refuse(!slot(s) || turn < 0 || turn > 5, BAD);
    return put(s, slots.get(s).by(turn));
  }

  public int even(int s) {
    refuse(!slot(s), BAD);
    refuse(above(slots.get(s).norm().multiply(big(6))), WIDE);
    P sum = P.NULL;
    for (int k = 0; k < 6; k++) sum = sum.plus(slots.get(s).by(k));
    return put(s, sum);
  }

  public int orbit(int s) {
    refuse(!slot(s), BAD);
    Set<Map<Term, BigInteger>> unlike = new HashSet<>();
    for (int k = 0; k < 6; k++) unlike.add(slots.get(s).by(k).m);
    return unlike.size();
  }

  public int like(int s) {
    refuse(!slot(s), BAD);
    int t = 0;
    while (!slots.get(t).m.equals(slots.get(s).m)) t++;
    return t;
  }

  public long coefficient(int s, int x, int y, int z) {
    refuse(!slot(s) || !isTerm(x, y, z), 0);
    return slots.get(s).at(new Term(x, y, z)).longValueExact();
  }

  public int lead(int s, int what) {
    refuse(!slot(s) || what < 0 || what > 4, BAD);
    P p = slots.get(s);
    if (what == 4) return p.terms();
    refuse(p.isZero(), NONE);
    return what == 3 ? lead(p).degree() : lead(p).exponents()[what];
  }

  public long norm(int s) {
    refuse(!slot(s), 0);
    return slots.get(s).norm().longValueExact();
  }

  public long at(int s, int x, int y, int z, int m) {
    refuse(!slot(s) || m < 2 || m > 1000000, 0);
    return slots.get(s).worth(x, y, z, big(m)).longValueExact();
  }

  public int poly(int s, int sheet, int from, int n) {
    refuse(!slot(s) || sheet < 0 || sheet > 3 || n < 0 || n > 10, BAD);
    refuse(sheets[sheet] == null, NOTHING);
    long[] row = sheets[sheet];
    P p = P.NULL;
    Set<Term> told = new HashSet<>();
    for (int k = 0; k < n; k++) {
      long f = (long) from + 4 * k;
      refuse(f < 0 || f + 3 >= row.length, OUTSIDE);
      int i = (int) f;
      refuse(row[i] < -999 || row[i] > 999 || !isTerm(row[i + 1], row[i + 2], row[i + 3]), BAD);
      Term t = new Term((int) row[i + 1], (int) row[i + 2], (int) row[i + 3]);
      told.add(t);
      p = p.plus(P.of(big(row[i]), t));
    }
    put(s, p);
    return told.size();
  }

  void set(int sheet, int i, long v) {
    sheets[sheet][i] = sorts[sheet] == 0 ? (byte) v : (int) v;
  }

  public int spread(int s, int sheet, int from) {
    refuse(!slot(s) || sheet < 0 || sheet > 3, BAD);
    refuse(sheets[sheet] == null, NOTHING);
    refuse(from < 0 || from > sheets[sheet].length, OUTSIDE);
    List<Term> terms = new ArrayList<>(slots.get(s).m.keySet());
    terms.sort(((Comparator<Term>) this::compare).reversed());
    int came = 0;
    for (Term t : terms) {
      int i = from + 4 * came;
      if (i + 4 > sheets[sheet].length) break;
      set(sheet, i, slots.get(s).at(t).longValueExact());
      set(sheet, i + 1, t.a);
      set(sheet, i + 2, t.b);
      set(sheet, i + 3, t.c);
      came++;
    }
    return came;
  }

  public int family(int family) {
    refuse(family < 0 || family > 5, BAD);
    P sum = P.of(1, 1, 0, 0, 1, 0, 1, 0, 1, 0, 0, 1);
    P pairs = P.of(1, 1, 1, 0, 1, 1, 0, 1, 1, 0, 1, 1);
    P all = P.of(1, 1, 1, 1);
    P[][] families = {
      {P.of(1, 1, 0, 0, 1, 0, 1, 0), P.of(1, 1, 1, 0), P.of(1, 1, 2, 0)},
      {sum, pairs, all},
      {sum, P.of(1, 2, 0, 0, 1, 0, 2, 0, 1, 0, 0, 2), P.of(1, 3, 0, 0, 1, 0, 3, 0, 1, 0, 0, 3)},
      {sum, pairs, all, P.of(1, 2, 1, 0, 1, 0, 2, 1, 1, 1, 0, 2)},
      {P.of(1, 2, 0, 0), P.of(1, 1, 1, 0), P.of(1, 0, 2, 0), P.of(1, 0, 0, 1)},
      {P.of(1, 2, 0, 0, 1, 1, 0, 0), P.of(1, 3, 0, 0, -2, 0, 0, 0), P.of(1, 0, 1, 1, 1, 1, 0, 0)}};
    for (int i = 0; i < families[family].length; i++) put(i, families[family][i]);
    return families[family].length;
  }

  public int generator(int s) {
    refuse(!slot(s), BAD);
    P p = slots.get(s);
    refuse(p.isZero() || !p.at(lead(p)).equals(ONE) || lead(p).degree() == 0, STATE);
    for (Gen g : gens) refuse(lead(g.p).equals(lead(p)), STATE);
    refuse(gens.size() == 7, FULL);
    gens.add(new Gen(p, false, List.of()));
    return gens.size() - 1;
  }

  public int give(int g, int s) {
    refuse(!gen(g) || !slot(s), BAD);
    return put(s, gens.get(g).p);
  }

  public int ofGenerator(int g, int what) {
    refuse(!gen(g) || what < 0 || what > 8, BAD);
    Gen it = gens.get(g);
    Term t = lead(it.p);
    return switch (what) {
      case 0, 1, 2 -> t.exponents()[what];
      case 3 -> t.degree();
      case 4 -> it.isGrown ? 1 : 0;
      case 5 -> height(it);
      case 6 -> it.parts.size();
      case 7 -> rowsOf(t).size() > 1 ? 1 : 0;
      default -> it.p.terms();
    };
  }

  public int drop() {
    refuse(gens.isEmpty(), STATE);
    gens.remove(gens.size() - 1);
    witness = null;
    return gens.size();
  }

  static long ofPart(List<Part> parts, int i, int what) {
    refuse(what < -1 || what > 6 || i < 0 || i >= parts.size(), 0);
    Part p = parts.get(i);
    return what < 0 ? p.c.longValueExact() : what < p.row.size() ? p.row.get(what) : 0;
  }

  public long made(int g, int i, int what) {
    refuse(!gen(g), 0);
    return ofPart(gens.get(g).parts, i, what);
  }

  BigInteger worth(Gen g, int x, int y, int z, BigInteger m) {
    if (!g.isGrown) return g.p.worth(x, y, z, m);
    BigInteger w = ZERO;
    for (Part p : g.parts) {
      BigInteger here = p.c;
      for (int h = 0; h < p.row.size(); h++) {
        if (p.row.get(h) > 0) here = here.multiply(worth(gens.get(h), x, y, z, m).pow(p.row.get(h)));
      }
      w = w.add(here);
    }
    return w.mod(m);
  }

  public long grown(int g, int x, int y, int z, int m) {
    refuse(!gen(g) || m < 2 || m > 1000000, 0);
    return worth(gens.get(g), x, y, z, big(m)).longValueExact();
  }

  public int closed() {
    Set<Map<Term, BigInteger>> all = new HashSet<>();
    for (Gen g : gens) all.add(g.p.m);
    int bits = 0;
    for (int k = 0; k < 6; k++) {
      boolean each = true;
      for (Gen g : gens) each &= all.contains(g.p.by(k).m);
      if (each) bits |= 1 << k;
    }
    return bits;
  }

  public int through(int s) {
    refuse(!slot(s), BAD);
    refuse(gens.size() < 3, STATE);
    P p = slots.get(s);
    for (Term t : p.m.keySet()) {
      int d = 0;
      for (int j = 0; j < 3; j++) d += t.exponents()[j] * lead(gens.get(j).p).degree();
      refuse(d > 6, DEEP);
    }
    BigInteger together = ZERO;
    P sum = P.NULL;
    for (Term t : p.m.keySet()) {
      List<Integer> row = longer(List.of(t.a, t.b, t.c));
      together = together.add(p.at(t).abs().multiply(cost(row)));
      sum = sum.plus(product(row).times(p.at(t)));
    }
    refuse(above(together), WIDE);
    return put(s, sum);
  }

  public int rows(int x, int y, int z) {
    refuse(!isTerm(x, y, z), BAD);
    return rowsOf(new Term(x, y, z)).size();
  }

  public int row(int x, int y, int z, int i, int g) {
    refuse(!isTerm(x, y, z) || !gen(g), BAD);
    List<List<Integer>> rows = rowsOf(new Term(x, y, z));
    refuse(i < 0 || i >= rows.size(), NONE);
    return rows.get(i).get(g);
  }

  public int monoid(int d, int what) {
    refuse(d < 0 || d > 6 || what < 0 || what > 2, BAD);
    int[] n = new int[3];
    for (Term t : ALL) {
      if (t.degree() == d) {
        n[rowsOf(t).isEmpty() ? 1 : 0]++;
        n[2] += rowsOf(t).size();
      }
    }
    return n[what];
  }

  public int root(int x, int y, int z) {
    refuse(!isTerm(x, y, z), BAD);
    for (int n = 1; n <= 6; n++) if (isTerm(n * x, n * y, n * z) && !rowsOf(new Term(n * x, n * y, n * z)).isEmpty()) return n;
    return NONE;
  }

  public int rank(int what) {
    refuse(what < 0 || what > 1, BAD);
    return what == 0 ? relationBasis().size() : spanBasis().size();
  }

  public long lattice(int i, int g) {
    List<BigInteger[]> b = relationBasis();
    refuse(i < 0 || i >= b.size() || !gen(g), 0);
    return b.get(i)[g].longValueExact();
  }

  public long span(int i, int j) {
    List<BigInteger[]> b = spanBasis();
    refuse(i < 0 || i >= b.size() || j < 0 || j > 2, 0);
    return b.get(i)[j].longValueExact();
  }

  public int inSpan(int x, int y, int z) {
    refuse(!factor(x) || !factor(y) || !factor(z), BAD);
    return parts(new BigInteger[] {big(x), big(y), big(z)}, spanBasis()) != null ? 1 : 0;
  }

  public long index() {
    List<BigInteger[]> b = spanBasis();
    if (b.size() < 3) return 0;
    return b.get(0)[0].multiply(b.get(1)[1]).multiply(b.get(2)[2]).longValueExact();
  }

  static boolean bound(int d) {
    return d >= 1 && d <= 6;
  }

  public int relations(int d) {
    refuse(!bound(d), BAD);
    return relationsTo(d).size();
  }

  public int relation(int d, int r, int side, int g) {
    refuse(!bound(d) || side < 0 || side > 1 || !gen(g), BAD);
    List<Relation> all = relationsTo(d);
    refuse(r < 0 || r >= all.size(), NONE);
    return (side == 0 ? all.get(r).left : all.get(r).right).get(g);
  }

  public long part(int d, int r, int i) {
    refuse(!bound(d), 0);
    List<Relation> all = relationsTo(d);
    List<BigInteger[]> b = relationBasis();
    refuse(r < 0 || r >= all.size() || i < 0 || i >= b.size(), 0);
    BigInteger[] row = new BigInteger[gens.size()];
    for (int g = 0; g < row.length; g++) row[g] = big(all.get(r).left.get(g) - all.get(r).right.get(g));
    return parts(row, b)[i].longValueExact();
  }

  public int difference(int d, int r, int s) {
    refuse(!bound(d) || !slot(s), BAD);
    List<Relation> all = relationsTo(d);
    refuse(r < 0 || r >= all.size(), NONE);
    return put(s, difference(all.get(r).left, all.get(r).right));
  }

  public int open(int d) {
    refuse(!bound(d), BAD);
    List<Relation> all = relationsTo(d);
    for (int r = 0; r < all.size(); r++) {
      if (!subduction(difference(all.get(r).left, all.get(r).right)).left.isZero()) return r;
    }
    return NONE;
  }

  public int complete(int d) {
    refuse(!bound(d), BAD);
    return completion(d);
  }

  public int wouldGrow(int d, int what) {
    refuse(!bound(d) || what < 0 || what > 2, BAD);
    List<Gen> before = gens;
    gens = new ArrayList<>(before);
    int end = completion(d);
    int after = gens.size();
    gens = before;
    return what == 0 ? after : what == 1 ? end : rounds;
  }

  public int certified(int d) {
    refuse(!bound(d), BAD);
    List<BigInteger[]> b = relationBasis();
    if (b.isEmpty()) return 1;
    if (b.size() > 1) return 0;
    List<Integer> over = new ArrayList<>();
    List<Integer> under = new ArrayList<>();
    int degree = 0;
    for (int g = 0; g < gens.size(); g++) {
      int n = b.get(0)[g].intValueExact();
      over.add(Math.max(n, 0));
      under.add(Math.max(-n, 0));
      degree += over.get(g) * lead(gens.get(g).p).degree();
    }
    if (degree > d) return 0;
    return subduction(difference(over, under)).left.isZero() ? 1 : 0;
  }

  public int subduct(int s) {
    refuse(!slot(s), BAD);
    Apart apart = subduction(slots.get(s));
    put(s, apart.left);
    witness = apart.steps;
    return witness.size();
  }

  public int member(int s) {
    refuse(!slot(s), BAD);
    return subduction(slots.get(s)).left.isZero() ? 1 : 0;
  }

  public long step(int i, int what) {
    refuse(witness == null, 0);
    return ofPart(witness, i, what);
  }

  public int witness(int s) {
    refuse(!slot(s), BAD);
    refuse(witness == null, NONE);
    BigInteger together = ZERO;
    P sum = P.NULL;
    for (Part p : witness) {
      together = together.add(p.c.abs().multiply(cost(p.row)));
      sum = sum.plus(product(p.row).times(p.c));
    }
    refuse(above(together), WIDE);
    return put(s, sum);
  }

  public int sheet(int sheet, int sort, int n) {
    refuse(sheet < 0 || sheet > 3 || sort < -1 || sort > 1 || sort >= 0 && n > 40, BAD);
    refuse(sort >= 0 && n < 0, SIZE);
    sheets[sheet] = sort < 0 ? null : new long[n];
    sorts[sheet] = sort;
    return 1;
  }

  public int cell(int sheet, int i, int v) {
    refuse(sheet < 0 || sheet > 3, BAD);
    refuse(sheets[sheet] == null, NOTHING);
    refuse(i < 0 || i >= sheets[sheet].length, OUTSIDE);
    set(sheet, i, v);
    return 1;
  }

  public long item(int sheet, int i) {
    refuse(sheet < 0 || sheet > 3 || sheets[sheet] == null || i < 0 || i >= sheets[sheet].length, 0);
    return sheets[sheet][i];
  }

  public int move(int sheet, int i, int other, int j, int n) {
    refuse(sheet < 0 || sheet > 3 || other < 0 || other > 3, BAD);
    refuse(sheets[sheet] == null || sheets[other] == null, NOTHING);
    refuse(sorts[sheet] != sorts[other], SORT);
    refuse(n < 0 || i < 0 || j < 0 || (long) i + n > sheets[sheet].length || (long) j + n > sheets[other].length, OUTSIDE);
    long[] were = sheets[sheet].clone();
    for (int k = 0; k < n; k++) sheets[other][j + k] = were[i + k];
    return n;
  }

  public int link(int kind, int n) {
    refuse(kind < 0 || kind > 6, BAD);
    refuse(kind == 0 && (n < 0 || n > 5), BAD);
    refuse(kind == 1 && !factor(n), BAD);
    refuse((kind == 2 || kind == 3 || kind == 5) && !slot(n), BAD);
    refuse(chain.size() == 8, FULL);
    chain.add(new Chained(kind, n, kind == 2 || kind == 5 ? slots.get(n) : null));
    return chain.size();
  }

  P past(Chained l, P p) {
    switch (l.kind) {
      case 0:
        return p.by(l.n);
      case 1:
        refuse(above(big(l.n).abs().multiply(p.norm())), WIDE);
        return p.times(big(l.n));
      case 2:
      case 3:
        P more = l.kind == 2 ? l.held : slots.get(l.n);
        refuse(above(p.norm().add(more.norm())), WIDE);
        return p.plus(more);
      case 4:
        return subduction(p).left;
      case 5:
        return productOf(p, l.held);
      default:
        return p.times(ONE.negate());
    }
  }

  public int run(int s, int way) {
    refuse(!slot(s) || way < 0 || way > 1, BAD);
    List<Chained> all = new ArrayList<>(chain);
    if (way == 1) Collections.reverse(all);
    P p = slots.get(s);
    for (Chained l : all) p = past(l, p);
    return put(s, p);
  }

  public int loosen() {
    int had = chain.size();
    chain.clear();
    return had;
  }

  public int keep() {
    kept = new Kept(new ArrayList<>(slots), order, new ArrayList<>(gens));
    return gens.size();
  }

  public int back() {
    refuse(kept == null, NONE);
    slots = new ArrayList<>(kept.slots);
    order = kept.order;
    gens = new ArrayList<>(kept.gens);
    witness = null;
    // The ORDER may be another one now, and with it the LEADING TERMS.
    rowsKnownFor = null;
    return gens.size();
  }

  public int count(int what) {
    switch (what) {
      case 0:
        return gens.size();
      case 1:
        return (int) gens.stream().filter(Gen::isGrown).count();
      case 2:
        return witness == null ? 0 : witness.size();
      case 3:
        return order;
      case 4:
        return kept == null ? 0 : 1;
      case 5:
        int there = 0;
        for (long[] s : sheets) there += s == null ? 0 : 1;
        return there;
      case 6:
        return witness == null ? 0 : 1;
      case 7:
        return chain.size();
      default:
        return BAD;
    }
  }
}
