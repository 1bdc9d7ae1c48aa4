import java.lang.reflect.Constructor;
import java.lang.reflect.Field;
import java.lang.reflect.Method;
import java.lang.reflect.Modifier;
import java.nio.file.Files;
import java.nio.file.Path;
import java.util.HashSet;
import java.util.List;
import java.util.Set;
import java.util.TreeSet;

/** The public face is the document's and no more; and what of LANGUAGE.md can be seen from outside. */
public final class FaceTest {
  private static final String DOC = "../shared/DOC.md";
  private static final String SOURCE = "src/main/java/GrownAlgebra.java";
  private static int wrong = 0;

  private static void due(String what, Object got, Object want) {
    if (!got.equals(want)) {
      wrong++;
      System.out.println(what + ": " + got + ", due is " + want);
    }
  }

  public static void main(String[] args) throws Exception {
    faceIsTheDocuments();
    nothingElseIsSeen();
    constantsAreAsTold();
    classesInside();
    forbiddenWords();
    System.out.println(wrong == 0 ? "the face is as due" : wrong + " things are not as due");
    if (wrong != 0) System.exit(1);
  }

  /** A member as the document writes it. */
  private static String told(Method m) {
    StringBuilder text = new StringBuilder("public " + m.getReturnType() + " " + m.getName() + "(");
    for (Class<?> p : m.getParameterTypes()) text.append(p).append(' ');
    return text.toString().trim() + ")";
  }

  private static void faceIsTheDocuments() throws Exception {
    Set<String> want = new TreeSet<>();
    for (String line : Files.readAllLines(Path.of(DOC))) {
      String l = line.trim();
      if (l.startsWith("public ") && l.endsWith(");") && !l.contains("GrownAlgebra")) {
        String head = l.substring(0, l.indexOf('(') + 1);
        String inside = l.substring(l.indexOf('(') + 1, l.indexOf(')')).replaceAll("(int|long) \\w+,?", "$1");
        want.add(head + inside.trim() + ")");
      }
    }
    Set<String> got = new TreeSet<>();
    for (Method m : GrownAlgebra.class.getDeclaredMethods()) if (Modifier.isPublic(m.getModifiers())) got.add(told(m));
    due("public methods", got, want);
    due("how many public methods", got.size(), 55);
  }

  private static void nothingElseIsSeen() {
    due("final and public", GrownAlgebra.class.getModifiers() & (Modifier.FINAL | Modifier.PUBLIC), Modifier.FINAL | Modifier.PUBLIC);
    for (Constructor<?> c : GrownAlgebra.class.getDeclaredConstructors()) due("constructor", c.toString(), "public GrownAlgebra()");
    Set<String> names = new HashSet<>();
    for (Method m : GrownAlgebra.class.getDeclaredMethods()) if (Modifier.isPublic(m.getModifiers())) names.add(m.getName());
    for (Method m : GrownAlgebra.class.getDeclaredMethods()) {
      boolean isPublic = Modifier.isPublic(m.getModifiers());
      due("private: " + m.getName(), isPublic || Modifier.isPrivate(m.getModifiers()), true);
      due("not a public name: " + m.getName(), isPublic || !names.contains(m.getName()), true);
    }
    for (Class<?> inside : GrownAlgebra.class.getDeclaredClasses()) {
      for (Method m : inside.getDeclaredMethods()) {
        due("not a public name: " + inside.getSimpleName() + "." + m.getName(), !names.contains(m.getName()), true);
        due("at most seven parameters: " + m.getName(), m.getParameterCount() <= 7, true);
      }
    }
  }

  private static void constantsAreAsTold() throws Exception {
    String[] ints = {"BAD", "NONE", "STATE", "FULL", "WIDE", "DEEP", "NOTHING", "OUTSIDE", "SORT", "SIZE"};
    int[] worths = {-1, -2, -3, -4, -5, -6, -11, -12, -13, -14};
    for (int i = 0; i < ints.length; i++) due(ints[i], GrownAlgebra.class.getField(ints[i]).get(null), worths[i]);
    due("NO", GrownAlgebra.NO, Long.MIN_VALUE);
    for (Field f : GrownAlgebra.class.getDeclaredFields()) {
      boolean constant = Modifier.isPublic(f.getModifiers()) && Modifier.isStatic(f.getModifiers()) && Modifier.isFinal(f.getModifiers());
      due("field " + f.getName(), constant || Modifier.isPrivate(f.getModifiers()), true);
      due("public field " + f.getName(), !Modifier.isPublic(f.getModifiers()) || List.of(ints).contains(f.getName()) || f.getName().equals("NO"), true);
    }
  }

  private static void classesInside() {
    Class<?>[] inside = GrownAlgebra.class.getDeclaredClasses();
    due("at most twelve classes", inside.length + 1 <= 12, true);
    for (Class<?> c : inside) {
      due("static: " + c.getSimpleName(), Modifier.isStatic(c.getModifiers()), true);
      fieldsOf(c);
    }
    fieldsOf(GrownAlgebra.class);
  }

  private static void fieldsOf(Class<?> c) {
    int fields = 0;
    for (Field f : c.getDeclaredFields()) {
      if (Modifier.isStatic(f.getModifiers())) {
        due("static and final: " + f.getName(), Modifier.isFinal(f.getModifiers()), true);
      } else {
        fields++;
      }
    }
    due("at most twenty fields: " + c.getSimpleName(), fields <= 20, true);
  }

  private static void forbiddenWords() throws Exception {
    String code = Files.readString(Path.of(SOURCE)).replaceAll("(?s)/\\*.*?\\*/", "").replaceAll("//[^\n]*", "");
    for (String word : new String[] {"throw", "throws", "try", "catch", "synchronized", "assert", "instanceof", "double", "float", "package"}) {
      due("no " + word, code.matches("(?s).*\\b" + word + "\\b.*"), false);
    }
    due("no lambda nor method reference", code.contains("->") || code.contains("::"), false);
    due("imports", code.replaceAll("(?s)(import [^;]*;).*", "$1").trim(), "import java.util.Arrays;");
    due("no other import", code.split("\\bimport\\b").length, 2);
    String end = "none";
    int length = 0;
    for (String line : code.split("\n")) {
      length++;
      if (line.matches("( {2}| {4})(?!if|for|while|do|switch|else)\\w.*\\) \\{")) {
        end = line.replaceAll("\\S.*", "") + "}";
        length = 1;
      } else if (line.equals(end)) {
        due("at most sixty lines: " + length, length <= 60, true);
        end = "none";
      }
    }
  }
}
