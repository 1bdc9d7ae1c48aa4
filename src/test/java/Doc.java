import java.io.IOException;
import java.io.UncheckedIOException;
import java.nio.file.Files;
import java.nio.file.Path;

/** What the document says, so that a test can name the words that it is about. */
final class Doc {
  static final int PROMISES = 56;
  static final int PARTS = 4;
  private static final String ALL = read();

  private static String read() {
    try {
      return Files.readString(Path.of("../shared/DOC.md")).replace("```text", " ").replace("```", " ").replaceAll("\\s+", " ");
    } catch (IOException e) {
      throw new UncheckedIOException(e);
    }
  }

  private static String between(String start, String end) {
    int from = ALL.indexOf(start);
    int to = from < 0 ? -1 : ALL.indexOf(end, from + start.length());
    if (to < 0) throw new IllegalStateException("the document has no \"" + start + "\" with \"" + end + "\" behind it");
    return ALL.substring(from, to);
  }

  static String promise(int n) {
    return between("## Promise " + n + ":", n < PROMISES ? "## Promise " + (n + 1) + ":" : "## Not promised");
  }

  /** The name of the call that a promise is about. */
  static String callOf(int n) {
    String text = promise(n);
    return text.substring(text.indexOf(": ") + 2, text.indexOf(" `"));
  }

  /** One of the four parts of "Terms". */
  static String part(int n) {
    return between("======== " + n + " ", n < PARTS ? "======== " + (n + 1) + " " : "A KEPT state has");
  }

  /** What stands behind the four parts: what is KEPT, and the answers that refuse. */
  static String behindTheParts() {
    return between("A KEPT state has", "The constants:");
  }
}
