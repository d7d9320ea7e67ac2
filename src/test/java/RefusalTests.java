import java.util.ArrayList;
import java.util.List;

/** REFUSALS change nothing: after each of them an object answers as one that was never asked it. */
public final class RefusalTests {
  private static final Check CHECK = new Check();

  public static void main(String[] args) {
    int number = 0;
    for (List<Call> state : States.all()) {
      BestSplits untouched = stateOf(state);
      boolean hasRows = untouched.node(0, 6) > 0;
      boolean isFull = untouched.node(0, 6) == 24;
      CHECK.says("state " + number++);
      for (Refused refused : refusals(hasRows, isFull, untouched.nodes(), untouched.stages())) {
        refuse(state, refused, false);
        refuse(state, refused, true);
      }
    }
    CHECK.end("RefusalTests");
  }

  private record Refused(Call call, int answer) {}

  private static BestSplits stateOf(List<Call> calls) {
    BestSplits x = new BestSplits();
    calls.forEach(call -> call.on(x));
    return x;
  }

  private static List<Refused> refusals(boolean hasRows, boolean isFull, int nodes, int stages) {
    List<Refused> all = new ArrayList<>();
    all.add(new Refused(Call.of("column", 4, 1), -1));
    all.add(new Refused(Call.of("column", -1, 2), -1));
    for (int c = 0; c < 4; c++) {
      all.add(new Refused(Call.of("column", c, 2), -2));
      all.add(new Refused(Call.of("column", c, -1), -2));
      if (hasRows) {
        all.add(new Refused(Call.of("column", c, 0), -3));
        all.add(new Refused(Call.of("column", c, 1), -3));
      }
    }
    int[][] rows = {{-2, 3, 3, 3, 1}, {3, 101, 3, 3, 1}, {3, 3, -2, 3, 1}, {3, 3, 3, 101, 1}, {3, 3, 3, 3, 3},
        {3, 3, 3, 3, -1}, {101, 101, 101, 101, 3}};
    for (int[] row : rows) {
      all.add(new Refused(new Call("row", row), -2));
    }
    if (isFull) {
      all.add(new Refused(Call.of("row", 3, 3, 3, 3, 1), -4));
      all.add(new Refused(Call.of("row", -1, -1, -1, -1, 2), -4));
    }
    int[][] settings = {{-1, 3, 50}, {6, 3, 50}, {1, 0, 50}, {1, 11, 50}, {1, 3, -1}, {1, 3, 1001}};
    for (int[] three : settings) {
      all.add(new Refused(new Call("settings", three), -2));
    }
    addQuestions(all, nodes, stages);
    return all;
  }

  private static void addQuestions(List<Refused> all, int nodes, int stages) {
    all.add(new Refused(Call.of("node", nodes, 0), -1));
    all.add(new Refused(Call.of("node", 0, 9), -2));
    all.add(new Refused(Call.of("node", nodes - 1, 3), -3));
    all.add(new Refused(Call.of("count", nodes, 0), -1));
    all.add(new Refused(Call.of("count", 0, 3), -1));
    all.add(new Refused(Call.of("gain", nodes, 0), -1));
    all.add(new Refused(Call.of("gain", 0, 2), -2));
    all.add(new Refused(Call.of("gain", nodes - 1, 0), -3));
    all.add(new Refused(Call.of("leaf", 0, 0, 0, 101), -2));
    all.add(new Refused(Call.of("leafOf", 24), -1));
    all.add(new Refused(Call.of("cutGain", 4, 0, 0, 0), -1));
    all.add(new Refused(Call.of("cutGain", 0, 0, 2, 0), -2));
    all.add(new Refused(Call.of("cutGain", 0, 101, 0, 0), -3));
    all.add(new Refused(Call.of("alpha", stages, 0), -1));
    all.add(new Refused(Call.of("alpha", 0, 2), -2));
    all.add(new Refused(Call.of("leaves", stages), -1));
    all.add(new Refused(Call.of("wrong", stages), -1));
    all.add(new Refused(Call.of("state", stages, 0), -1));
    all.add(new Refused(Call.of("state", 0, nodes), -1));
  }

  /** An object may have worked out its tree before it refuses, or not yet. */
  private static void refuse(List<Call> state, Refused refused, boolean isAskedBefore) {
    BestSplits x = stateOf(state);
    if (isAskedBefore) {
      x.stages();
      x.leftOut();
      x.cuts();
    }
    CHECK.due(refused.call.toString(), refused.call.on(x), refused.answer);
    CHECK.due(refused.call + " again", refused.call.on(x), refused.answer);
    List<Integer> got = answers(x);
    List<Integer> want = answers(stateOf(state));
    CHECK.holds("after " + refused.call + " all is as before: " + got + " and " + want, got.equals(want));
  }

  /** So few questions that, with those before, an object has at most 512 calls. */
  private static List<Integer> answers(BestSplits x) {
    List<Integer> all = new ArrayList<>();
    int nodes = x.nodes();
    all.add(nodes);
    for (int n = 0; n < nodes; n++) {
      for (int what : new int[] {0, 1, 2, 6, 7}) {
        all.add(x.node(n, what));
      }
    }
    for (int stage = 0; stage < x.stages(); stage++) {
      all.add(x.alpha(stage, 0));
      all.add(x.alpha(stage, 1));
      all.add(x.leaves(stage));
      all.add(x.wrong(stage));
    }
    all.add(x.cuts());
    all.add(x.leftOut());
    for (int number = 0; number < 8; number++) {
      all.add(x.cutGain(3, number, 0, 0));
    }
    addWhatIsHidden(x, all);
    return all;
  }

  /** SETTINGS tell on other ROWS too, and SORTS when there are none. */
  private static void addWhatIsHidden(BestSplits x, List<Integer> all) {
    all.add(x.row(0, 0, 0, 0, 0));
    all.add(x.clear());
    for (int r = 0; r < 24; r++) {
      all.add(x.row(r % 6, r / 6, r * 5 % 6, r % 4, r % 2));
    }
    all.add(x.nodes());
    all.add(x.cuts());
    all.add(x.node(x.nodes() - 1, 5));
    all.add(x.leftOut());
    all.add(x.clear());
    for (int c = 0; c < 4; c++) {
      all.add(x.column(c, 0));
    }
  }
}
