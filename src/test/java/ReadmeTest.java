import java.io.IOException;
import java.nio.file.Files;
import java.nio.file.Path;
import java.util.HashSet;
import java.util.Set;
import java.util.TreeSet;
import java.util.regex.Matcher;
import java.util.regex.Pattern;

/** The examples of README.md answer what stands behind them, and each call of the face is named there. */
public final class ReadmeTest {
  private static final Pattern BLOCK = Pattern.compile("(?s)```java\n(.*?)```");
  private static final Pattern LINE = Pattern.compile("a\\.(\\w+\\([^)]*\\));\\s+// (-?\\w+).*");
  private static final Pattern NAMED = Pattern.compile("`(\\w+)`");

  private ReadmeTest() {
  }

  public static void main(String[] args) throws IOException {
    String readme = Files.readString(Path.of("README.md"));
    int examples = 0;
    Matcher block = BLOCK.matcher(readme);
    while (block.find()) {
      examples++;
      Script.run("README.md, example " + examples, scriptOf(block.group(1)));
    }
    if (examples == 0) Script.fault("README.md has no example");
    Set<String> named = new HashSet<>();
    Matcher name = NAMED.matcher(readme);
    while (name.find()) named.add(name.group(1));
    Set<String> unnamed = new TreeSet<>();
    for (int n = 2; n <= Doc.PROMISES; n++) if (!named.contains(Doc.callOf(n))) unnamed.add(Doc.callOf(n));
    if (!unnamed.isEmpty()) Script.fault("README.md doesn't name " + unnamed);
    Script.end();
  }

  private static String scriptOf(String block) {
    StringBuilder script = new StringBuilder();
    String[] lines = block.split("\n");
    if (!lines[0].equals("GrownAlgebra a = new GrownAlgebra();")) Script.fault("README.md: no new object: " + lines[0]);
    for (int i = 1; i < lines.length; i++) {
      Matcher m = LINE.matcher(lines[i]);
      if (m.matches()) {
        script.append(m.group(1).replace(" ", "")).append('=').append(m.group(2)).append(' ');
      } else {
        Script.fault("README.md: no call with an answer: " + lines[i]);
      }
    }
    return script.toString();
  }
}
