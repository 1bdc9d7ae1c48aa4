import java.util.ArrayList;
import java.util.List;
import java.util.regex.Matcher;
import java.util.regex.Pattern;

/**
 * Runs of calls, written out as text: name(argument,..)=answer, one behind the other, on a new object.
 * An answer may be a constant's name; MAX and MIN stand for the greatest and the least int, L for LARGEST.
 * Three words stand for runs of calls that are checked as they are made, and have no answer:
 * put(s,2x^2y-z+1): SLOT s becomes that POLYNOMIAL; gens(s,x;x^2+y): SLOT s becomes each of these in turn, and a GENERATOR;
 * big(s,n,x,y,z): SLOT s becomes n (1 or more) times a TERM.
 * Behind each call that refuses or only asks all must be as it was ahead of it.
 */
final class Script {
  private static final Pattern CALL = Pattern.compile("(\\w+)\\(([^)]*)\\)(?:=(\\S+))?");
  private static final Pattern TERM = Pattern.compile("([+-]?)(\\d*)(x(?:\\^(\\d))?)?(y(?:\\^(\\d))?)?(z(?:\\^(\\d))?)?");
  private static int wrong = 0;
  private static int calls = 0;
  private static int looked = 0;
  private static int scripts = 0;

  private final String title;
  private final boolean looks;
  private final GrownAlgebra algebra = new GrownAlgebra();
  private final Model model = new Model();
  private final List<Call> made = new ArrayList<>();
  /** What the look behind the latest call told; null: nobody has looked. */
  private List<Long> seen = null;

  private Script(String title, boolean looks) {
    this.title = title;
    this.looks = looks;
  }

  static void promise(int number, String what, String text) {
    run("promise " + number + ", " + what, text);
  }

  static void run(String title, String text) {
    new Script(title, true).go(text);
    scripts++;
  }

  /** For a script that leaves no calls for a look. */
  static void runWithoutLooks(String title, String text) {
    new Script(title, false).go(text);
    scripts++;
  }

  static void fault(String what) {
    wrong++;
    System.out.println(what);
  }

  static void end() {
    System.out.println(scripts + " scripts, " + calls + " calls, " + looked + " looks, " + wrong + " things are not as due");
    if (wrong != 0) System.exit(1);
  }

  /** The calls of a script with the answers that are due. */
  static List<Due> read(String text) {
    String rest = CALL.matcher(text).replaceAll("").trim();
    if (!rest.isEmpty()) throw new IllegalArgumentException("no calls: " + rest);
    List<Due> found = new ArrayList<>();
    Matcher m = CALL.matcher(text);
    while (m.find()) {
      String[] words = m.group(2).isEmpty() ? new String[0] : m.group(2).split(",");
      switch (m.group(1)) {
        case "put":
          addPut(found, (int) number(words[0]), words[1]);
          break;
        case "gens":
          for (String polynomial : words[1].split(";")) {
            addPut(found, (int) number(words[0]), polynomial);
            found.add(new Due(new Call("generator", (int) number(words[0])), null));
          }
          break;
        case "big":
          addBig(found, (int) number(words[0]), number(words[1]), numbers(words, 2));
          break;
        default:
          found.add(new Due(new Call(m.group(1), numbers(words, 0)), number(m.group(3))));
      }
    }
    return found;
  }

  private static int[] numbers(String[] words, int from) {
    int[] found = new int[words.length - from];
    for (int i = 0; i < found.length; i++) found[i] = (int) number(words[from + i]);
    return found;
  }

  /** A call and its answer; null: that of the model, if it doesn't refuse. */
  record Due(Call call, Long answer) {
  }

  private void go(String text) {
    for (Due due : read(text)) check(due.call, due.answer);
    if (made.size() > Call.MOST) fault(title + ": " + made.size() + " calls on one object");
  }

  static long number(String word) {
    switch (word) {
      case "BAD": return -1;
      case "NONE": return -2;
      case "STATE": return -3;
      case "FULL": return -4;
      case "WIDE": return -5;
      case "DEEP": return -6;
      case "NOTHING": return -11;
      case "OUTSIDE": return -12;
      case "SORT": return -13;
      case "SIZE": return -14;
      case "NO": return Long.MIN_VALUE;
      case "MAX": return Integer.MAX_VALUE;
      case "MIN": return Integer.MIN_VALUE;
      default:
        int at = word.indexOf("L");
        if (at < 0) return Long.parseLong(word);
        // L, -L, L/6, L/6+1, L-999
        long n = Long.MAX_VALUE;
        Matcher m = Pattern.compile("([/+-])(\\d+)").matcher(word);
        while (m.find()) {
          long by = Long.parseLong(m.group(2));
          n = m.group(1).equals("/") ? n / by : m.group(1).equals("+") ? n + by : n - by;
        }
        return at == 1 ? -n : n;
    }
  }

  private static void addPut(List<Due> to, int s, String polynomial) {
    to.add(new Due(new Call("clear", s), null));
    String rest = TERM.matcher(polynomial).replaceAll("");
    if (!rest.isEmpty()) throw new IllegalArgumentException("no polynomial: " + polynomial);
    Matcher m = TERM.matcher(polynomial);
    while (m.find()) {
      if (m.group().isEmpty()) continue;
      int c = m.group(2).isEmpty() ? 1 : Integer.parseInt(m.group(2));
      int[] exponents = new int[3];
      for (int letter = 0; letter < 3; letter++) {
        String power = m.group(4 + 2 * letter);
        exponents[letter] = m.group(3 + 2 * letter) == null ? 0 : power == null ? 1 : Integer.parseInt(power);
      }
      to.add(new Due(new Call("term", s, m.group(1).equals("-") ? -c : c, exponents[0], exponents[1], exponents[2]), null));
    }
  }

  /** By its digits of 999 each, from the highest down. */
  private static void addBig(List<Due> to, int s, long n, int[] exponents) {
    to.add(new Due(new Call("clear", s), null));
    long unit = 1;
    while (n / unit >= 999) unit *= 999;
    for (long u = unit; u > 0; u /= 999) {
      if (u < unit) to.add(new Due(new Call("add", s, s, 998), 1L));
      to.add(new Due(new Call("term", s, (int) (n / u % 999), exponents[0], exponents[1], exponents[2]), 1L));
    }
    to.add(new Due(new Call("coefficient", s, exponents[0], exponents[1], exponents[2]), n));
  }

  private void check(Call call, Long told) {
    calls++;
    long answer = call.on(algebra);
    long models = call.on(model);
    long due = told == null ? Math.max(models, 0) : told;
    if (answer != due || models != due) {
      fault(title + ": " + call + " answered " + answer + ", due is " + due + (models != due ? ", the model's answer is " + models : ""));
    }
    if (looks && call.leavesAllAsItWas(due)) {
      List<Long> ahead = seen != null ? seen : Look.behind(made);
      made.add(call);
      seen = Look.behind(made);
      looked++;
      if (!seen.equals(ahead)) fault(title + ": " + call + " changed something, call " + made.size());
    } else {
      made.add(call);
      seen = null;
    }
  }
}
