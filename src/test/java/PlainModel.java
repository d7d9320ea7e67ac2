import java.util.ArrayList;
import java.util.List;
import java.util.TreeSet;

/** The document's words, followed as plainly as can be: everything is worked out anew at each question. */
final class PlainModel {
  /** A fraction in lowest terms. */
  record Part(long above, long below) implements Comparable<Part> {
    static Part of(long above, long below) {
      long a = Math.abs(above);
      long b = below;
      while (b != 0) {
        long rest = a % b;
        a = b;
        b = rest;
      }
      return new Part(above / a, below / a);
    }

    Part plus(Part o) {
      return of(above * o.below + o.above * below, below * o.below);
    }

    Part minus(Part o) {
      return of(above * o.below - o.above * below, below * o.below);
    }

    @Override
    public int compareTo(Part o) {
      return Long.compare(above * o.below, o.above * below);
    }

    int term(int part) {
      return (int) (part == 0 ? above : below);
    }
  }

  record Row(int[] values, int cls) {}

  record Cut(int column, int number, int side, Part gain, List<Row> left, List<Row> right) {}

  static final class Node {
    List<Row> rows;
    int depth;
    Cut cut;
    int left = -1;
    int right = -1;
  }

  private final int[] sorts = new int[4];
  private final List<Row> rows = new ArrayList<>();
  private int depth = 3;
  private int least = 1;
  private int worth = 0;

  private static Part q(List<Row> some) {
    if (some.isEmpty()) {
      return Part.of(0, 1);
    }
    long sum = 0;
    for (int cls = 0; cls < 3; cls++) {
      long ofIt = ofClass(some, cls);
      sum += ofIt * ofIt;
    }
    return Part.of(sum, some.size());
  }

  private static int ofClass(List<Row> some, int cls) {
    return (int) some.stream().filter(r -> r.cls == cls).count();
  }

  private static int label(List<Row> some) {
    int label = 0;
    for (int cls = 2; cls >= 0; cls--) {
      if (ofClass(some, cls) >= ofClass(some, label)) {
        label = cls;
      }
    }
    return label;
  }

  private static int wrongOf(List<Row> some) {
    return some.size() - ofClass(some, label(some));
  }

  private boolean isLeft(int c, int number, int side, int value) {
    if (value == -1) {
      return side == 0;
    }
    return sorts[c] == 0 ? value <= number : (number & (1 << value)) != 0;
  }

  private List<Integer> numbersOf(List<Row> some, int c) {
    TreeSet<Integer> known = new TreeSet<>();
    some.forEach(r -> known.add(r.values[c]));
    known.remove(-1);
    List<Integer> numbers = new ArrayList<>();
    if (known.isEmpty()) {
      return numbers;
    }
    if (sorts[c] == 0) {
      numbers.addAll(known.headSet(known.last()));
      return numbers;
    }
    for (int set = 1; set < 64; set++) {
      TreeSet<Integer> kinds = new TreeSet<>();
      for (int kind = 0; kind < 6; kind++) {
        if ((set & (1 << kind)) != 0) {
          kinds.add(kind);
        }
      }
      if (known.containsAll(kinds) && kinds.contains(known.first()) && !kinds.equals(known)) {
        numbers.add(set);
      }
    }
    return numbers;
  }

  private List<Cut> cutsOf(List<Row> some) {
    List<Cut> all = new ArrayList<>();
    for (int c = 0; c < 4; c++) {
      int column = c;
      boolean anyUnknown = some.stream().anyMatch(r -> r.values[column] == -1);
      for (int number : numbersOf(some, c)) {
        for (int side = 0; side < (anyUnknown ? 2 : 1); side++) {
          List<Row> left = new ArrayList<>();
          List<Row> right = new ArrayList<>();
          for (Row r : some) {
            (isLeft(c, number, side, r.values[c]) ? left : right).add(r);
          }
          if (left.size() >= least && right.size() >= least) {
            Part gain = q(left).plus(q(right)).minus(q(some));
            all.add(new Cut(c, number, side, gain, left, right));
          }
        }
      }
    }
    return all;
  }

  private List<Node> treeOf(List<Row> some) {
    List<Node> tree = new ArrayList<>();
    tree.add(nodeOf(some, 0));
    for (int n = 0; n < tree.size(); n++) {
      Node node = tree.get(n);
      long kinds = node.rows.stream().mapToInt(r -> r.cls).distinct().count();
      if (kinds < 2 || node.depth >= depth) {
        continue;
      }
      Cut best = null;
      for (Cut cut : cutsOf(node.rows)) {
        if (best == null || cut.gain.compareTo(best.gain) > 0) {
          best = cut;
        }
      }
      if (best == null || best.gain.above * 100 <= worth * best.gain.below) {
        continue;
      }
      node.cut = best;
      node.left = tree.size();
      node.right = tree.size() + 1;
      tree.add(nodeOf(best.left, node.depth + 1));
      tree.add(nodeOf(best.right, node.depth + 1));
    }
    return tree;
  }

  private static Node nodeOf(List<Row> some, int depth) {
    Node node = new Node();
    node.rows = some;
    node.depth = depth;
    return node;
  }

  private int comesTo(List<Node> tree, int[] values) {
    int at = 0;
    while (tree.get(at).cut != null) {
      Cut cut = tree.get(at).cut;
      boolean left = isLeft(cut.column, cut.number, cut.side, values[cut.column]);
      at = left ? tree.get(at).left : tree.get(at).right;
    }
    return at;
  }

  record Stage(int[] states, Part alpha) {}

  private static void leavesBelow(List<Node> tree, int[] states, int n, List<Node> found) {
    if (states[n] == 1) {
      found.add(tree.get(n));
    } else {
      leavesBelow(tree, states, tree.get(n).left, found);
      leavesBelow(tree, states, tree.get(n).right, found);
    }
  }

  private static List<Node> leavesOf(List<Node> tree, int[] states, int n) {
    List<Node> found = new ArrayList<>();
    leavesBelow(tree, states, n, found);
    return found;
  }

  private static int sumOfWrong(List<Node> some) {
    return some.stream().mapToInt(n -> wrongOf(n.rows)).sum();
  }

  private static Part weight(List<Node> tree, int[] states, int n) {
    List<Node> below = leavesOf(tree, states, n);
    return Part.of(wrongOf(tree.get(n).rows) - sumOfWrong(below), below.size() - 1);
  }

  private static void loseBelow(List<Node> tree, int[] states, int n) {
    Node node = tree.get(n);
    if (node.cut != null) {
      states[node.left] = 2;
      states[node.right] = 2;
      loseBelow(tree, states, node.left);
      loseBelow(tree, states, node.right);
    }
  }

  private static List<Stage> stagesOf(List<Node> tree) {
    List<Stage> all = new ArrayList<>();
    int[] states = tree.stream().mapToInt(n -> n.cut == null ? 1 : 0).toArray();
    all.add(new Stage(states, Part.of(0, 1)));
    while (states[0] == 0) {
      Part alpha = null;
      for (int n = 0; n < states.length; n++) {
        if (states[n] == 0 && (alpha == null || weight(tree, states, n).compareTo(alpha) < 0)) {
          alpha = weight(tree, states, n);
        }
      }
      int[] next = states.clone();
      for (int n = 0; n < states.length; n++) {
        if (states[n] == 0 && next[n] != 2 && weight(tree, states, n).equals(alpha)) {
          next[n] = 1;
          loseBelow(tree, next, n);
        }
      }
      states = next;
      all.add(new Stage(states, alpha));
    }
    return all;
  }

  private static boolean in(int x, int from, int to) {
    return x >= from && x <= to;
  }

  private boolean takes(int[] values) {
    for (int c = 0; c < 4; c++) {
      if (!in(values[c], -1, sorts[c] == 0 ? 100 : 5)) {
        return false;
      }
    }
    return true;
  }

  int column(int c, int sort) {
    if (!in(c, 0, 3)) return -1;
    if (!in(sort, 0, 1)) return -2;
    if (!rows.isEmpty()) return -3;
    int was = sorts[c];
    sorts[c] = sort;
    return was;
  }

  int row(int a, int b, int c, int d, int cls) {
    int[] values = {a, b, c, d};
    if (!takes(values) || !in(cls, 0, 2)) return -2;
    if (rows.size() == 24) return -4;
    rows.add(new Row(values, cls));
    return rows.size() - 1;
  }

  int clear() {
    int were = rows.size();
    rows.clear();
    return were;
  }

  int settings(int newDepth, int newLeast, int newWorth) {
    if (!in(newDepth, 0, 5) || !in(newLeast, 1, 10) || !in(newWorth, 0, 1000)) return -2;
    depth = newDepth;
    least = newLeast;
    worth = newWorth;
    return 1;
  }

  int nodes() {
    return treeOf(rows).size();
  }

  int node(int n, int what) {
    List<Node> tree = treeOf(rows);
    if (!in(n, 0, tree.size() - 1)) return -1;
    if (!in(what, 0, 8)) return -2;
    Node node = tree.get(n);
    if (what < 5 && node.cut == null) return -3;
    return switch (what) {
      case 0 -> node.cut.column;
      case 1 -> node.cut.number;
      case 2 -> node.cut.side;
      case 3 -> node.left;
      case 4 -> node.right;
      case 5 -> node.depth;
      case 6 -> node.rows.size();
      case 7 -> label(node.rows);
      default -> wrongOf(node.rows);
    };
  }

  int count(int n, int cls) {
    List<Node> tree = treeOf(rows);
    return in(n, 0, tree.size() - 1) && in(cls, 0, 2) ? ofClass(tree.get(n).rows, cls) : -1;
  }

  int gain(int n, int part) {
    List<Node> tree = treeOf(rows);
    if (!in(n, 0, tree.size() - 1)) return -1;
    if (!in(part, 0, 1)) return -2;
    return tree.get(n).cut == null ? -3 : tree.get(n).cut.gain.term(part);
  }

  int leaf(int a, int b, int c, int d) {
    int[] values = {a, b, c, d};
    return takes(values) ? comesTo(treeOf(rows), values) : -2;
  }

  int leafOf(int row) {
    return in(row, 0, rows.size() - 1) ? comesTo(treeOf(rows), rows.get(row).values) : -1;
  }

  int cuts() {
    return cutsOf(rows).size();
  }

  int cutGain(int c, int number, int side, int part) {
    if (!in(c, 0, 3)) return -1;
    if (!in(side, 0, 1) || !in(part, 0, 1)) return -2;
    for (Cut cut : cutsOf(rows)) {
      if (cut.column == c && cut.number == number && cut.side == side) {
        return cut.gain.term(part);
      }
    }
    return -3;
  }

  int stages() {
    return stagesOf(treeOf(rows)).size();
  }

  int alpha(int stage, int part) {
    List<Stage> all = stagesOf(treeOf(rows));
    if (!in(stage, 0, all.size() - 1)) return -1;
    return in(part, 0, 1) ? all.get(stage).alpha.term(part) : -2;
  }

  int leaves(int stage) {
    List<Node> tree = treeOf(rows);
    List<Stage> all = stagesOf(tree);
    return in(stage, 0, all.size() - 1) ? leavesOf(tree, all.get(stage).states, 0).size() : -1;
  }

  int wrong(int stage) {
    List<Node> tree = treeOf(rows);
    List<Stage> all = stagesOf(tree);
    return in(stage, 0, all.size() - 1) ? sumOfWrong(leavesOf(tree, all.get(stage).states, 0)) : -1;
  }

  int state(int stage, int n) {
    List<Node> tree = treeOf(rows);
    List<Stage> all = stagesOf(tree);
    return in(stage, 0, all.size() - 1) && in(n, 0, tree.size() - 1) ? all.get(stage).states[n] : -1;
  }

  int leftOut() {
    int mistaken = 0;
    for (int r = 0; r < rows.size(); r++) {
      List<Row> others = new ArrayList<>(rows);
      Row out = others.remove(r);
      List<Node> tree = treeOf(others);
      if (label(tree.get(comesTo(tree, out.values)).rows) != out.cls) {
        mistaken++;
      }
    }
    return mistaken;
  }
}
