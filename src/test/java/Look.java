import java.util.ArrayList;
import java.util.List;

/**
 * All that can be seen of an object behind some calls: SLOTS, GENERATORS, WITNESS, SHEETS, THE CHAIN, what is KEPT.
 * The last questions change the object, so that each look is at a new one, on which the same calls are made again.
 */
final class Look {
  private final GrownAlgebra algebra = new GrownAlgebra();
  private final List<Long> seen = new ArrayList<>();
  private int made = 0;

  private Look(List<Call> behind) {
    for (Call call : behind) call.on(algebra);
    made = behind.size();
  }

  static List<Long> behind(List<Call> calls) {
    Look look = new Look(calls);
    look.atCounts();
    look.atSlots();
    look.atGenerators();
    look.atWitness();
    look.atSheets();
    look.atChain();
    look.atKept();
    if (look.made > Call.MOST) throw new IllegalStateException("an object is used for " + look.made + " calls: make the script shorter");
    return look.seen;
  }

  private long ask(String name, int... arguments) {
    made++;
    long answer = new Call(name, arguments).on(algebra);
    seen.add(answer);
    return answer;
  }

  private void atCounts() {
    for (int what = 0; what <= 7; what++) ask("count", what);
  }

  /** The worth of a POLYNOMIAL at a point tells two of them apart, as near as no matter. */
  private void atSlot(int s) {
    ask("norm", s);
    ask("lead", s, 4);
    ask("at", s, 7919, 104729, -611953, 999983);
  }

  private void atSlots() {
    for (int s = 0; s <= 5; s++) atSlot(s);
  }

  private void atGenerators() {
    for (int g = 0; g < 7 && ask("ofGenerator", g, 3) != GrownAlgebra.BAD; g++) {
      ask("ofGenerator", g, 0);
      ask("ofGenerator", g, 1);
      ask("ofGenerator", g, 5);
      ask("ofGenerator", g, 8);
      ask("grown", g, 7919, 104729, -611953, 999983);
      long parts = ask("ofGenerator", g, 6);
      for (int i = 0; i < parts && i < 3; i++) {
        ask("made", g, i, -1);
        ask("made", g, i, 0);
      }
      ask("give", g, 5);
      atSlot(5);
      ask("clear", 5);
    }
    ask("monoid", 6, 2);
    ask("rank", 0);
    ask("relations", 6);
  }

  private void atWitness() {
    long steps = ask("count", 2);
    for (int i = 0; i < steps && i < 4; i++) {
      ask("step", i, -1);
      ask("step", i, 0);
    }
    ask("witness", 5);
    atSlot(5);
  }

  private void atSheets() {
    for (int sheet = 0; sheet <= 3; sheet++) {
      for (int i = 0; i < 40 && ask("item", sheet, i) != GrownAlgebra.NO; i++);
      // What is put in bytes comes out of them as their lowest 8 bits.
      ask("cell", sheet, 0, 200);
      ask("item", sheet, 0);
    }
  }

  private void atChain() {
    for (int way = 0; way <= 1; way++) {
      ask("clear", 5);
      ask("term", 5, 3, 1, 0, 0);
      ask("term", 5, 5, 0, 1, 0);
      ask("run", 5, way);
      atSlot(5);
    }
  }

  private void atKept() {
    ask("back");
    ask("count", 3);
    atSlots();
    atGenerators();
  }
}
