import java.util.ArrayList;
import java.util.Collections;
import java.util.LinkedHashMap;
import java.util.List;
import java.util.Map;
import java.util.Random;

/** Runs of as many calls as an object is used for, the same each time, on the class and on the plain model of the document. */
public final class RandomRunsTest {
  /** What the arguments of each call are like: one letter each. */
  private static final String[] CALLS = {
    "order o", "term s c e e e", "clear s", "add s s c", "times s s", "turn s t", "even s", "orbit s", "like s",
    "coefficient s e e e", "lead s w", "norm s", "at s i i i m", "poly s h f n", "spread s h f", "family t",
    "generator s", "give g s", "ofGenerator g k", "drop", "made g p q", "grown g i i i m", "closed", "through s",
    "rows e e e", "row e e e r g", "monoid d w", "root e e e", "rank w", "lattice r g", "span w w", "inSpan v v v",
    "index", "relations d", "relation d r w g", "part d r w", "difference d r s", "open d", "complete d",
    "wouldGrow d w", "certified d", "subduct s", "member s", "step p q", "witness s", "sheet h b z", "cell h f v",
    "item h f", "move h f h f z", "link k l", "run s w", "loosen", "keep", "back", "count k"};
  private static final int[] STRANGE = {-1, 7, 8, 41, -1000, 1000, Integer.MIN_VALUE, Integer.MAX_VALUE};

  private static int wrong = 0;
  private static long made = 0;
  private static final Map<String, Map<String, Integer>> seen = new LinkedHashMap<>();

  private final Random random;
  private final int run;
  private final GrownAlgebra algebra = new GrownAlgebra();
  private final Model model = new Model();
  private final List<String> told = new ArrayList<>();

  /** The end of a run: there are no more calls to make, or an answer was wrong. */
  private static final class Enough extends RuntimeException {
    Enough() {
      super(null, null, false, false);
    }
  }

  private RandomRunsTest(int run) {
    this.run = run;
    random = new Random(run * 7919L + 17);
  }

  private int below(int n) {
    return random.nextInt(n);
  }

  private int argument(char kind) {
    if (below(60) == 0) return STRANGE[below(STRANGE.length)];
    switch (kind) {
      case 'o': return below(3);
      case 's': return below(6);
      case 'c': return below(3) > 0 ? below(5) - 2 : below(2) == 0 ? below(1999) - 999 : below(2) == 0 ? 999 : -999;
      case 'e': return below(3) > 0 ? below(3) : below(7);
      case 't': return below(6);
      case 'w': return below(3) > 0 ? below(2) : below(5);
      case 'i': return below(3) > 0 ? below(20) - 9 : random.nextInt();
      case 'm': return below(3) > 0 ? 2 + below(999999) : below(2) == 0 ? below(4) : 999999 + below(3);
      case 'h': return below(4);
      case 'f': return below(3) > 0 ? below(9) : below(44) - 2;
      case 'n': return below(11);
      case 'g': return below(3) > 0 ? below(4) : below(8);
      case 'k': return below(9);
      case 'p': return below(3) > 0 ? below(6) : below(40);
      case 'q': return below(9) - 1;
      case 'r': return below(3) > 0 ? below(4) : below(20);
      case 'd': return below(3) > 0 ? 4 + below(3) : below(8);
      case 'v': return below(3) > 0 ? below(7) - 1 : below(2) == 0 ? below(2001) - 1000 : random.nextInt();
      case 'b': return below(10) == 0 ? -1 : below(2);
      case 'z': return below(3) > 0 ? below(42) : below(6);
      case 'l': return below(6);
      default: throw new IllegalStateException("no such kind: " + kind);
    }
  }

  private long call(String name, int... given) {
    if (told.size() == Call.MOST) throw new Enough();
    Call call = new Call(name, given);
    long want = call.on(model);
    long got = call.on(algebra);
    told.add(call + " " + got);
    made++;
    String sort = want < 0 ? want == GrownAlgebra.NO ? "NO" : String.valueOf(want < -14 ? "less" : want) : want == 0 ? "0" : "more";
    seen.computeIfAbsent(name, n -> new LinkedHashMap<>()).merge(sort, 1, Integer::sum);
    if (got != want) {
      wrong++;
      System.out.println("run " + run + ": " + String.join("; ", told) + " <- due is " + want);
      throw new Enough();
    }
    return got;
  }

  private void randomCall() {
    String[] words = CALLS[below(CALLS.length)].split(" ");
    // Else there would hardly ever be many generators, nor anything kept for long.
    if ((words[0].equals("drop") || words[0].equals("back") || words[0].equals("loosen")) && below(4) > 0) return;
    int[] given = new int[words.length - 1];
    for (int i = 0; i < given.length; i++) given[i] = argument(words[i + 1].charAt(0));
    call(words[0], given);
  }

  /** A polynomial that can often be a generator. */
  private void makePolynomial(int s, boolean high) {
    call("clear", s);
    int d = 1 + below(high ? 6 : 3);
    int a = below(d + 1);
    int b = below(d - a + 1);
    call("term", s, 1, a, b, d - a - b);
    int more = below(4);
    for (int i = 0; i < more; i++) {
      int e = below(d + 1);
      int x = below(e + 1);
      int y = below(e - x + 1);
      call("term", s, below(8) == 0 ? below(1999) - 999 : below(3) - 1, x, y, e - x - y);
    }
  }

  /** A coefficient near the bound, or near a small part of it, or near what is above it when squared. */
  private void blowUp(int s) {
    long n = below(3) > 0 ? Long.MAX_VALUE / (1 + below(9)) : 1L << 20 + below(20);
    n = below(2) == 0 ? n - below(1200) : n - (random.nextLong() >>> 3) % n;
    int d = below(4);
    int x = below(d + 1);
    int y = below(d - x + 1);
    call("clear", s);
    long unit = 1;
    while (n / unit >= 999) unit *= 999;
    for (; unit > 0; unit /= 999) {
      call("add", s, s, 998);
      call("term", s, (int) (n / unit % 999), x, y, d - x - y);
    }
    if (below(2) == 0) call("term", s, 1, below(3), below(3), below(3));
  }

  /** Leading terms that divide one term, so that it has many rows, with tails by which much grows. */
  private void makeDivisors() {
    int a = below(5);
    int b = below(6 - a);
    int c = 6 - a - b;
    boolean tails = below(3) > 0;
    int n = 4 + below(4);
    for (int i = 0; i < n; i++) {
      call("clear", 0);
      int x = below(a + 1);
      int y = below(b + 1);
      int z = below(c + 1);
      call("term", 0, 1, x, y, z);
      for (int k = 0; tails && k < 2; k++) {
        int e = Math.max(0, x + y + z - 1 - below(2));
        int f = below(e + 1);
        int g = below(e - f + 1);
        call("term", 0, below(3) - 1, f, g, e - f - g);
      }
      call("generator", 0);
    }
  }

  private void makeGenerators() {
    int how = below(6);
    if (how == 0) {
      int n = (int) call("family", below(6));
      for (int s = 0; s < n; s++) call("generator", s);
    } else if (how > 3) {
      makeDivisors();
    } else {
      boolean high = below(4) == 0;
      int n = 2 + below(6);
      for (int i = 0; i < n; i++) {
        int s = below(6);
        if (how == 3 && below(3) == 0) {
          blowUp(s);
        } else {
          makePolynomial(s, high);
        }
        call("generator", s);
      }
    }
  }

  /** Of all that can be asked of what is there, some questions. */
  private void askAll(int most) {
    List<Call> all = new ArrayList<>();
    for (int s = 0; s < 6; s++) {
      all.add(new Call("norm", s));
      all.add(new Call("like", s));
      for (Model.Term t : model.slots.get(s).m.keySet()) all.add(new Call("coefficient", s, t.a(), t.b(), t.c()));
      for (int w = 0; w < 5; w++) all.add(new Call("lead", s, w));
    }
    for (int g = 0; g < model.gens.size(); g++) {
      for (int w = 0; w < 9; w++) all.add(new Call("ofGenerator", g, w));
      int parts = model.gens.get(g).parts().size();
      for (int i = 0; i < parts; i++) for (int w = -1; w < 7; w++) all.add(new Call("made", g, i, w));
      for (int i = 0; i < 7; i++) all.add(new Call("lattice", i, g));
      all.add(new Call("grown", g, 2, 3, 5, 1000000));
      all.add(new Call("give", g, 5));
    }
    for (int i = 0; i < 4; i++) for (int j = 0; j < 3; j++) all.add(new Call("span", i, j));
    for (int w = 0; w < 9; w++) all.add(new Call("count", w));
    int steps = model.count(2);
    for (int i = 0; i < steps; i++) for (int w = -1; w < 7; w++) all.add(new Call("step", i, w));
    for (int h = 0; h < 4; h++) if (model.sheets[h] != null) for (int i = 0; i < model.sheets[h].length; i++) all.add(new Call("item", h, i));
    ask(all, most);
  }

  private void askOfRelations(int most) {
    List<Call> all = new ArrayList<>();
    int n = model.relations(6);
    int gens = model.gens.size();
    for (int r = 0; r < n; r++) {
      for (int g = 0; g < gens; g++) {
        all.add(new Call("relation", 6, r, 0, g));
        all.add(new Call("relation", 6, r, 1, g));
      }
      for (int i = 0; i < gens; i++) all.add(new Call("part", 6, r, i));
      all.add(new Call("difference", 6, r, 4));
    }
    for (int d = 1; d <= 6; d++) {
      all.add(new Call("relations", d));
      all.add(new Call("open", d));
      all.add(new Call("certified", d));
      for (int w = 0; w < 3; w++) all.add(new Call("monoid", d, w));
    }
    for (Model.Term t : Model.ALL) {
      all.add(new Call("rows", t.a(), t.b(), t.c()));
      all.add(new Call("root", t.a(), t.b(), t.c()));
      int rows = model.rowsOf(t).size();
      for (int i = 0; i < rows; i++) for (int g = 0; g < gens; g++) all.add(new Call("row", t.a(), t.b(), t.c(), i, g));
    }
    ask(all, most);
  }

  private void ask(List<Call> all, int most) {
    Collections.shuffle(all, random);
    for (int i = 0; i < all.size() && i < most; i++) call(all.get(i).name(), all.get(i).arguments());
  }

  /** Other generators in the place of those that are kept, ahead of back(). */
  private void goBack() {
    call("keep");
    for (int left = below(8); left > 0; left--) call("drop");
    if (below(3) == 0) call("order", below(3));
    makeGenerators();
    call("complete", 6);
    call("back");
    askAll(60);
  }

  private void go() {
    if (below(2) == 0) call("order", below(3));
    if (below(8) > 0) makeGenerators();
    askOfRelations(below(120));
    if (below(2) == 0) {
      for (int w = 0; w < 3; w++) call("wouldGrow", 4 + below(3), w);
      call("complete", 4 + below(3));
      askAll(below(120));
      askOfRelations(below(60));
    }
    if (below(3) == 0) blowUp(below(6));
    // Till there is an end of calls.
    for (;;) {
      randomCall();
      if (below(100) == 0) makePolynomial(below(6), false);
      if (below(150) == 0) blowUp(below(6));
      if (below(150) == 0) goBack();
      if (below(150) == 0) askAll(50);
    }
  }

  public static void main(String[] args) {
    int runs = args.length > 0 ? Integer.parseInt(args[0]) : 2500;
    int from = args.length > 1 ? Integer.parseInt(args[1]) : 0;
    for (int run = from; run < from + runs && wrong < 5; run++) {
      try {
        new RandomRunsTest(run).go();
      } catch (Enough end) {
        // The next one.
      }
    }
    if (args.length > 2) seen.forEach((name, sorts) -> System.out.println(name + " " + sorts));
    System.out.println(made + " calls in " + runs + " runs, " + wrong + " runs with a wrong answer");
    if (wrong != 0) System.exit(1);
  }
}
