import java.lang.reflect.InvocationTargetException;
import java.lang.reflect.Method;
import java.lang.reflect.Modifier;
import java.util.Arrays;
import java.util.HashMap;
import java.util.Map;
import java.util.Set;
import java.util.stream.Collectors;

/** A call by its name: it can be made on the class and on the model of the document. */
record Call(String name, int... arguments) {
  /** An object is used for at most so many calls: what later ones answer is free, so no test asks it. */
  static final int MOST = 512;

  /** What is only asked changes nothing. All other calls change nothing when they refuse. */
  private static final Set<String> ASKING = Set.of("orbit", "like", "coefficient", "lead", "norm", "at", "ofGenerator", "made", "grown",
      "closed", "rows", "row", "monoid", "root", "rank", "lattice", "span", "inSpan", "index", "relations", "relation", "part", "open",
      "wouldGrow", "certified", "member", "step", "item", "count");

  private static final Map<String, Method> ON_CLASS = methodsOf(GrownAlgebra.class);
  private static final Map<String, Method> ON_MODEL = methodsOf(Model.class);

  private static Map<String, Method> methodsOf(Class<?> type) {
    Map<String, Method> found = new HashMap<>();
    for (Method m : type.getDeclaredMethods()) if (Modifier.isPublic(m.getModifiers())) found.put(m.getName(), m);
    return found;
  }

  long on(GrownAlgebra algebra) {
    return made(ON_CLASS.get(name), algebra);
  }

  long on(Model model) {
    return made(ON_MODEL.get(name), model);
  }

  private long made(Method method, Object on) {
    if (method == null) throw new IllegalArgumentException("there is no such call: " + this);
    try {
      return ((Number) method.invoke(on, Arrays.stream(arguments).boxed().toArray())).longValue();
    } catch (InvocationTargetException e) {
      if (e.getCause() instanceof Model.Refusal refusal) {
        return method.getReturnType() == long.class ? Model.NO : refusal.answer;
      }
      throw new IllegalStateException(toString(), e.getCause());
    } catch (IllegalAccessException e) {
      throw new IllegalStateException(toString(), e);
    }
  }

  /** Of a call that isn't only asking all that is below 0 refuses. */
  boolean leavesAllAsItWas(long answer) {
    return ASKING.contains(name) || answer < 0;
  }

  @Override
  public String toString() {
    return name + Arrays.stream(arguments).mapToObj(String::valueOf).collect(Collectors.joining(", ", "(", ")"));
  }
}
