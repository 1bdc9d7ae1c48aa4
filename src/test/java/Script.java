import java.lang.reflect.InvocationTargetException;
import java.lang.reflect.Method;
import java.util.regex.Matcher;
import java.util.regex.Pattern;

/**
 * Runs of calls, written out as text: name(argument,..)=answer, one behind the other, on a new object.
 * An answer may be a constant's name; MAX and MIN stand for the greatest and the least int, L for LARGEST.
 * big(s,n,x,y,z) has no answer: SLOT s becomes n times a TERM, by calls that are checked as they are made.
 */
final class Script {
  private static final Pattern CALL = Pattern.compile("(\\w+)\\(([^)]*)\\)(?:=(\\S+))?");
  private static int wrong = 0;
  private static int calls = 0;
  private static int scripts = 0;

  private final String title;
  private final GrownAlgebra algebra = new GrownAlgebra();
  private final Model model = new Model();

  private Script(String title) {
    this.title = title;
  }

  static void promise(int number, String what, String text) {
    new Script("promise " + number + ", " + what).go(text);
    scripts++;
  }

  static void end() {
    System.out.println(scripts + " scripts, " + calls + " calls, " + wrong + " answers are not as due");
    if (wrong != 0) System.exit(1);
  }

  private void go(String text) {
    String rest = CALL.matcher(text).replaceAll("").trim();
    if (!rest.isEmpty()) throw new IllegalArgumentException(title + ": " + rest);
    Matcher m = CALL.matcher(text);
    while (m.find()) {
      String[] words = m.group(2).isEmpty() ? new String[0] : m.group(2).split(",");
      if (m.group(1).equals("big")) {
        big((int) number(words[0]), number(words[1]), (int) number(words[2]), (int) number(words[3]), (int) number(words[4]));
      } else {
        Object[] arguments = new Object[words.length];
        for (int i = 0; i < words.length; i++) arguments[i] = (int) number(words[i]);
        check(m.group(1), arguments, number(m.group(3)));
      }
    }
  }

  private static long number(String word) {
    switch (word) {
      case "BAD": return -1;
      case "NONE": return -2;
      case "STATE": return -3;
      case "FULL": return -4;
      case "WIDE": return -5;
      case "DEEP": return -6;
      case "NOTHING": return -11;
      case "OUTSIDE": return -12;
      case "SORT": return -13;
      case "SIZE": return -14;
      case "NO": return Long.MIN_VALUE;
      case "MAX": return Integer.MAX_VALUE;
      case "MIN": return Integer.MIN_VALUE;
      default:
        int colon = word.indexOf("L");
        if (colon < 0) return Long.parseLong(word);
        // L, L/6, L/6+1, L-999
        long n = Long.MAX_VALUE;
        Matcher m = Pattern.compile("([/+-])(\\d+)").matcher(word);
        while (m.find()) {
          long by = Long.parseLong(m.group(2));
          n = m.group(1).equals("/") ? n / by : m.group(1).equals("+") ? n + by : n - by;
        }
        return n;
    }
  }

  private void big(int s, long n, int x, int y, int z) {
    check("clear", new Object[] {s}, algebra.lead(s, 4));
    int[] digits = new int[8];
    long rest = n;
    for (int i = 0; i < 8; i++) {
      digits[i] = (int) (rest % 999);
      rest /= 999;
    }
    long so = 0;
    for (int i = 7; i >= 0; i--) {
      check("add", new Object[] {s, s, 998}, so == 0 ? 0 : 1);
      so = so * 999 + digits[i];
      check("term", new Object[] {s, digits[i], x, y, z}, so == 0 ? 0 : 1);
    }
    check("coefficient", new Object[] {s, x, y, z}, n);
  }

  private void check(String name, Object[] arguments, long want) {
    calls++;
    long got = answer(algebra, name, arguments);
    long model = answer(this.model, name, arguments);
    if (got != want || model != want) {
      wrong++;
      StringBuilder text = new StringBuilder();
      for (Object a : arguments) text.append(text.length() > 0 ? ", " : "").append(a);
      System.out.println(title + ": " + name + "(" + text + ") answered " + got + ", due is " + want + (model != want ? ", the model's answer is " + model : ""));
    }
  }

  private static long answer(Object on, String name, Object[] arguments) {
    try {
      Class<?>[] ints = new Class<?>[arguments.length];
      java.util.Arrays.fill(ints, int.class);
      Method method = on.getClass().getMethod(name, ints);
      try {
        return ((Number) method.invoke(on, arguments)).longValue();
      } catch (InvocationTargetException e) {
        if (e.getCause() instanceof Model.Refusal refusal) {
          return method.getReturnType() == long.class ? Model.NO : refusal.answer;
        }
        throw new IllegalStateException(name, e.getCause());
      }
    } catch (ReflectiveOperationException e) {
      throw new IllegalStateException(e);
    }
  }
}
