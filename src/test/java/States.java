import java.util.ArrayList;
import java.util.List;

/** The calls that lead a new object to a state at some boundary. */
final class States {
  private States() {}

  static List<List<Call>> all() {
    List<List<Call>> all = new ArrayList<>();
    all.add(List.of());
    all.add(List.of(Call.of("column", 0, 1), Call.of("column", 3, 1), Call.of("settings", 5, 10, 1000)));
    all.add(List.of(Call.of("row", 100, 0, -1, 50, 2)));
    all.add(List.of(Call.of("row", 0, 0, 0, 0, 0), Call.of("row", 100, 0, 100, -1, 1)));
    all.add(unknownAlone());
    all.add(ends());
    all.add(alternating(24, 2, 2, 10));
    all.add(alternating(24, 5, 1, 0));
    all.add(alternating(23, 0, 1, 0));
    all.add(fullTree());
    all.add(kinds(24, 5, 1, 0));
    all.add(kinds(20, 5, 10, 0));
    all.add(kinds(12, 4, 2, 60));
    all.add(afterClear());
    return all;
  }

  static List<Call> unknownAlone() {
    List<Call> calls = new ArrayList<>();
    calls.add(Call.of("column", 2, 1));
    for (int r = 0; r < 5; r++) {
      calls.add(Call.of("row", -1, -1, -1, -1, r % 3));
    }
    return calls;
  }

  /** Only the least and the greatest values, and UNKNOWN. */
  static List<Call> ends() {
    List<Call> calls = new ArrayList<>();
    calls.add(Call.of("column", 1, 1));
    calls.add(Call.of("settings", 5, 1, 0));
    int[] numbers = {0, 100, -1};
    int[] kinds = {0, 5, -1};
    for (int r = 0; r < 18; r++) {
      calls.add(Call.of("row", numbers[r % 3], kinds[r / 3 % 3], numbers[r / 9], r % 2 == 0 ? 99 : 100, r * 5 % 7 % 3));
    }
    return calls;
  }

  static List<Call> alternating(int rows, int depth, int least, int worth) {
    List<Call> calls = new ArrayList<>();
    calls.add(Call.of("settings", depth, least, worth));
    for (int r = 0; r < rows; r++) {
      calls.add(Call.of("row", r, r / 5, 100 - r / 3, r % 5 - 1, r % 2 + r / 20));
    }
    return calls;
  }

  static List<Call> fullTree() {
    List<Call> calls = new ArrayList<>();
    calls.add(Call.of("settings", 5, 1, 0));
    for (int r = 0; r < 24; r++) {
      calls.add(Call.of("row", r & 1, r >> 1 & 1, r >> 2 & 1, r >> 3, Given.classInFullTree(r)));
    }
    return calls;
  }

  static List<Call> kinds(int rows, int depth, int least, int worth) {
    List<Call> calls = new ArrayList<>();
    for (int c = 0; c < 4; c++) {
      calls.add(Call.of("column", c, 1));
    }
    calls.add(Call.of("settings", depth, least, worth));
    for (int r = 0; r < rows; r++) {
      calls.add(Call.of("row", r % 7 - 1, r * 5 % 6, r * r % 7 - 1, r / 4, r * 5 / 3 % 3));
    }
    return calls;
  }

  /** Many ROWS with UNKNOWN ones, then few without. */
  static List<Call> afterClear() {
    List<Call> calls = new ArrayList<>(ends());
    calls.add(Call.of("leftOut"));
    calls.add(Call.of("stages"));
    calls.add(Call.of("clear"));
    calls.add(Call.of("column", 1, 0));
    calls.add(Call.of("row", 50, 2, 0, 0, 1));
    calls.add(Call.of("row", 51, 1, 0, 0, 0));
    calls.add(Call.of("row", 52, 3, 0, 0, 2));
    return calls;
  }
}
