import java.util.HashMap;
import java.util.HashSet;
import java.util.Map;
import java.util.Set;
import java.util.regex.Matcher;
import java.util.regex.Pattern;

/** A script for words of the document that name a boundary: they must stand there, and each answer that refuses must be met. */
final class Edge {
  /** Not behind a number: complete() has "1 FULL" and "3 WIDE" for answers that don't refuse. */
  private static final Pattern REFUSAL = Pattern.compile("(?<!\\d )\\b(BAD|NONE|STATE|FULL|WIDE|DEEP|NOTHING|OUTSIDE|SORT|SIZE|NO)\\b");
  /** By each promise: the answers that are due from its call in its own scripts. */
  private static final Map<Integer, Set<Long>> MET = new HashMap<>();
  private static final Set<String> PARTS_MET = new HashSet<>();

  private Edge() {
  }

  static void promise(int n, String words, String script) {
    must(Doc.promise(n), "promise " + n, words);
    Script.run("promise " + n + ", \"" + words + "\"", script);
    Set<Long> met = MET.computeIfAbsent(n, k -> new HashSet<>());
    for (Script.Due due : Script.read(script)) {
      if (due.answer() != null && due.call().name().equals(Doc.callOf(n))) met.add(due.answer());
    }
  }

  static void part(int n, String words, String script) {
    must(Doc.part(n), "part " + n, words);
    Script.run("part " + n + ", \"" + words + "\"", script);
    PARTS_MET.add("part " + n);
  }

  static void behindTheParts(String words, String script) {
    must(Doc.behindTheParts(), "behind the parts", words);
    Script.run("behind the parts, \"" + words + "\"", script);
    PARTS_MET.add("behind");
  }

  private static void must(String text, String where, String words) {
    if (!text.contains(words)) Script.fault("the document doesn't say, " + where + ": " + words);
  }

  static void end() {
    for (int n = 2; n <= Doc.PROMISES; n++) {
      Set<Long> met = MET.getOrDefault(n, Set.of());
      Matcher m = REFUSAL.matcher(Doc.promise(n));
      while (m.find()) {
        if (!met.contains(Script.number(m.group()))) Script.fault("no edge of promise " + n + " has the answer " + m.group());
      }
      if (met.isEmpty()) Script.fault("promise " + n + " has no edge");
    }
    if (PARTS_MET.size() != Doc.PARTS + 1) Script.fault("edges of the parts: " + PARTS_MET);
    Script.end();
  }
}
