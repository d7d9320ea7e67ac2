import java.util.ArrayList;
import java.util.List;

/**
 * In each state at a boundary: every question with every argument from below its bounds to above them, and
 * with some far outside, compared with the plain model's answer.
 */
public final class EveryArgumentTests {
  private static final Check CHECK = new Check();
  private static final int MOST_CALLS = 512;

  private final List<Call> setUp;
  private final PlainModel model = new PlainModel();
  private BestSplits x;
  private int used = MOST_CALLS;

  private EveryArgumentTests(List<Call> setUp) {
    this.setUp = setUp;
    setUp.forEach(call -> call.on(model));
  }

  public static void main(String[] args) {
    int number = 0;
    for (List<Call> state : States.all()) {
      CHECK.says("state " + number++);
      new EveryArgumentTests(state).askEverything();
    }
    CHECK.end("EveryArgumentTests");
  }

  /** From one below to one above, and some that are far away or would fall inside if bits were lost. */
  private static int[] around(int from, int to) {
    int[] outside = Given.outside(from, to);
    int[] all = new int[to - from + 1 + outside.length];
    for (int v = from; v <= to; v++) {
      all[v - from] = v;
    }
    System.arraycopy(outside, 0, all, to - from + 1, outside.length);
    return all;
  }

  private void askEverything() {
    int nodes = model.nodes();
    int stages = model.stages();
    ask("nodes");
    ask("cuts");
    ask("stages");
    ask("leftOut");
    askPairs("node", around(0, nodes - 1), new int[] {Given.LOW, -1, 0, 1, 2, 3, 4, 5, 6, 7, 8, 9, Given.HIGH});
    askPairs("count", around(0, nodes - 1), new int[] {Given.LOW, -1, 0, 1, 2, 3, Given.HIGH});
    askPairs("gain", around(0, nodes - 1), new int[] {Given.LOW, -1, 0, 1, 2, Given.HIGH});
    askPairs("alpha", around(0, stages - 1), new int[] {Given.LOW, -1, 0, 1, 2, Given.HIGH});
    askPairs("state", around(0, stages - 1), around(0, nodes - 1));
    for (int stage : around(0, stages - 1)) {
      ask("leaves", stage);
      ask("wrong", stage);
    }
    for (int row : around(0, 24)) {
      ask("leafOf", row);
    }
    askCutGains();
    askLeaves();
  }

  private void askPairs(String name, int[] firsts, int[] seconds) {
    for (int first : firsts) {
      for (int second : seconds) {
        ask(name, first, second);
      }
    }
  }

  private void askCutGains() {
    for (int c = -1; c <= 4; c++) {
      for (int number : around(-1, 101)) {
        for (int side = -1; side <= 2; side++) {
          ask("cutGain", c, number, side, Math.floorMod(number, 2));
          ask("cutGain", c, number, side, Math.floorMod(number + 1, 2));
        }
      }
    }
  }

  private void askLeaves() {
    int[] values = {-2, -1, 0, 1, 2, 4, 5, 6, 50, 99, 100, 101};
    for (int a : values) {
      for (int b : values) {
        ask("leaf", a, b, 0, 0);
        ask("leaf", 0, a, b, -1);
        ask("leaf", -1, 5, a, b);
        ask("leaf", a, -1, 2, b);
      }
    }
  }

  private void ask(String name, int... arguments) {
    Call call = Call.of(name, arguments);
    if (used == MOST_CALLS) {
      beginAnew();
    }
    used++;
    CHECK.due(call.toString(), call.on(x), call.on(model));
  }

  /** What an object answers after its 512th call is free. */
  private void beginAnew() {
    x = new BestSplits();
    List<Integer> answers = new ArrayList<>();
    setUp.forEach(call -> answers.add(call.on(x)));
    PlainModel other = new PlainModel();
    for (int i = 0; i < setUp.size(); i++) {
      CHECK.due("set up: " + setUp.get(i), answers.get(i), setUp.get(i).on(other));
    }
    used = setUp.size();
  }
}
