/** The boundary cases of promises 6 to 11 and of the terms that they use, a test for each. */
public final class BoundsOfTreeTests {
  private static final Check CHECK = new Check();

  public static void main(String[] args) {
    treeOfNoRows();
    treeOfOneRow();
    treeOfOneClass();
    treeWithoutCut();
    treeAtEachDepth();
    treeAtLeast();
    treeAtWorth();
    treeAtGreatestWorth();
    gainOfNothing();
    fullTree();
    nodeNoSuch();
    nodeWhatOutside();
    nodeOfLeaf();
    nodeRefusalsInOrder();
    labelOfSeveral();
    bestOfEqualCuts();
    bestIsOneThatMayBe();
    sideWithoutUnknownOnes();
    sideOfUnknownOnesBelow();
    countNoSuch();
    countNone();
    gainPartOutside();
    gainOfLeaf();
    gainRefusalsInOrder();
    gainInLowestTerms();
    leafOfNoRows();
    leafAtTheNumber();
    leafOfKindsThatNoRowHas();
    leafOfUnknown();
    leafNumbersOutside();
    leafKindsOutside();
    leafOfRowNoSuch();
    leafOfRowIsWhereItWent();
    CHECK.end("BoundsOfTreeTests");
  }

  private static void due(String call, int got, int want) {
    CHECK.due(call, got, want);
  }

  private static BestSplits with(BestSplits x, int depth, int least, int worth) {
    due("settings", x.settings(depth, least, worth), 1);
    return x;
  }

  private static void treeOfNoRows() {
    CHECK.says("Promises 6 and 7, without ROWS");
    BestSplits x = Given.noRows();
    due("nodes()", x.nodes(), 1);
    for (int what = 0; what <= 4; what++) {
      due("node(0, " + what + ")", x.node(0, what), -3);
    }
    for (int what = 5; what <= 8; what++) {
      due("node(0, " + what + ")", x.node(0, what), 0);
    }
    due("node(1, 5)", x.node(1, 5), -1);
    due("gain(0, 0)", x.gain(0, 0), -3);
  }

  private static void treeOfOneRow() {
    CHECK.says("Promises 6 and 7, one ROW");
    BestSplits x = Given.byColumn0(new int[] {100}, new int[] {2});
    due("nodes()", x.nodes(), 1);
    due("ROWS", x.node(0, 6), 1);
    due("LABEL", x.node(0, 7), 2);
    due("WRONG", x.node(0, 8), 0);
    due("leafOf(0)", x.leafOf(0), 0);
  }

  private static void treeOfOneClass() {
    CHECK.says("Promise 6, ROWS of more than one CLASS");
    BestSplits x = new BestSplits();
    for (int r = 0; r < 24; r++) {
      x.row(r, 24 - r, 0, 0, 2);
    }
    due("one CLASS", x.nodes(), 1);
    due("LABEL", x.node(0, 7), 2);
    due("there are CUTS", x.cuts(), 46);
    due("two CLASSES", Given.byColumn0(new int[] {0, 1}, new int[] {2, 0}).nodes(), 3);
  }

  private static void treeWithoutCut() {
    CHECK.says("Promise 6, for which there is a CUT");
    due("the same values", Given.byColumn0(new int[] {7, 7}, new int[] {0, 1}).nodes(), 1);
    due("UNKNOWN alone", Given.byColumn0(new int[] {-1, -1}, new int[] {0, 1}).nodes(), 1);
    due("one known value", Given.byColumn0(new int[] {0, -1}, new int[] {0, 1}).nodes(), 1);
    due("one kind", Given.byKinds(new int[] {5, 5, -1}, new int[] {0, 1, 2}).nodes(), 1);
    due("no kind", Given.byKinds(new int[] {-1, -1}, new int[] {0, 1}).nodes(), 1);
    due("0 and 100", Given.byColumn0(new int[] {100, 0}, new int[] {0, 1}).nodes(), 3);
    due("kinds 0 and 5", Given.byKinds(new int[] {5, 0}, new int[] {0, 1}).nodes(), 3);
  }

  private static void treeAtEachDepth() {
    CHECK.says("Promise 6, at a depth below DEPTH");
    for (int depth = 0; depth <= 5; depth++) {
      BestSplits x = with(Given.alternating(24), depth, 1, 0);
      int deepest = 0;
      for (int n = 0; n < x.nodes(); n++) {
        deepest = Math.max(deepest, x.node(n, 5));
      }
      due("deepest at DEPTH " + depth, deepest, depth);
    }
    due("NODES at DEPTH 0", with(Given.twoBlocks(2, 2), 0, 1, 0).nodes(), 1);
    due("NODES at DEPTH 1", with(Given.twoLevels(), 1, 1, 0).nodes(), 3);
    due("NODES at DEPTH 2", with(Given.twoLevels(), 2, 1, 0).nodes(), 7);
  }

  private static void treeAtLeast() {
    CHECK.says("Promise 6, LEAST ROWS and more to each side");
    due("2 and 2 at LEAST 2", with(Given.twoBlocks(2, 2), 3, 2, 0).nodes(), 3);
    due("2 and 2 at LEAST 3", with(Given.twoBlocks(2, 2), 3, 3, 0).nodes(), 1);
    due("2 and 3 at LEAST 3", with(Given.twoBlocks(2, 3), 3, 3, 0).nodes(), 1);
    due("3 and 2 at LEAST 3", with(Given.twoBlocks(3, 2), 3, 3, 0).nodes(), 1);
    due("10 and 10 at LEAST 10", with(Given.twoBlocks(10, 10), 3, 10, 0).nodes(), 3);
    due("9 and 15 at LEAST 10", with(Given.twoBlocks(9, 15), 3, 10, 0).nodes(), 1);
    due("15 and 9 at LEAST 10", with(Given.twoBlocks(15, 9), 3, 10, 0).nodes(), 1);
    due("14 and 10 at LEAST 10", with(Given.twoBlocks(14, 10), 3, 10, 0).nodes(), 3);
  }

  /** 0 1 0: 1 + 1 less 5 / 3 is 1 / 3; of the two that are left 1 + 1 less 1 is 1. */
  private static void treeAtWorth() {
    CHECK.says("Promise 6, GAIN, 100 times, above WORTH");
    BestSplits x = Given.byColumn0(new int[] {0, 1, 2}, new int[] {0, 1, 0});
    due("100 / 3 and 33", with(x, 3, 1, 33).nodes(), 5);
    due("100 / 3 and 34", with(x, 3, 1, 34).nodes(), 1);
    BestSplits whole = Given.twoBlocks(1, 1);
    due("100 and 99", with(whole, 3, 1, 99).nodes(), 3);
    due("100 and 100", with(whole, 3, 1, 100).nodes(), 1);
    due("100 and 101", with(whole, 3, 1, 101).nodes(), 1);
    // the first CUT is worth 2, each of the next 1
    BestSplits deep = Given.byColumn0(new int[] {0, 1, 4, 5}, new int[] {0, 0, 1, 2});
    due("both levels", with(deep, 3, 1, 99).nodes(), 5);
    due("the first level", with(deep, 3, 1, 100).nodes(), 3);
  }

  private static void treeAtGreatestWorth() {
    CHECK.says("Promise 6, WORTH 1000");
    due("GAIN 10 is not above it", with(Given.twoBlocks(10, 10), 3, 1, 1000).nodes(), 1);
    due("GAIN 10 is above 999", with(Given.twoBlocks(10, 10), 3, 1, 999).nodes(), 3);
    due("GAIN 220 / 21 is", with(Given.twoBlocks(10, 11), 3, 1, 1000).nodes(), 3);
    BestSplits most = with(Given.twoBlocks(12, 12), 3, 1, 1000);
    due("the greatest GAIN is", most.nodes(), 3);
    due("12 above", most.gain(0, 0), 12);
    due("1 below", most.gain(0, 1), 1);
  }

  private static void gainOfNothing() {
    CHECK.says("Promise 6, GAIN 0 is not above WORTH 0");
    BestSplits x = new BestSplits();
    x.row(0, 0, 0, 0, 0);
    x.row(1, 1, 0, 0, 0);
    x.row(0, 1, 0, 0, 1);
    x.row(1, 0, 0, 0, 1);
    due("cuts()", x.cuts(), 2);
    due("nodes()", x.nodes(), 1);
    due("a CUT of it", x.cutGain(1, 0, 0, 0), 0);
  }

  private static void fullTree() {
    CHECK.says("Promises 6 to 11, as many NODES as there can be");
    BestSplits x = Given.fullTree();
    due("nodes()", x.nodes(), 47);
    int parted = 0;
    int rows = 0;
    for (int n = 0; n < 47; n++) {
      boolean isLeaf = x.node(n, 0) == -3;
      parted += isLeaf ? 0 : 1;
      rows += isLeaf ? x.node(n, 6) : 0;
      due("left one of NODE " + n, x.node(n, 3), isLeaf ? -3 : 2 * parted - 1);
      due("right one of NODE " + n, x.node(n, 4), isLeaf ? -3 : 2 * parted);
    }
    due("parted NODES", parted, 23);
    due("ROWS of the LEAVES", rows, 24);
    due("deepest", x.node(46, 5), 5);
    due("node(47, 5)", x.node(47, 5), -1);
    due("count(47, 0)", x.count(47, 0), -1);
    due("gain(47, 0)", x.gain(47, 0), -1);
    int seen = 0;
    for (int r = 0; r < 24; r++) {
      int leaf = x.leafOf(r);
      due("ROWS at the LEAF of ROW " + r, x.node(leaf, 6), 1);
      due("LEAF of its values", x.leaf(r & 1, r >> 1 & 1, r >> 2 & 1, r >> 3), leaf);
      seen += leaf;
    }
    int sum = 0;
    for (int n = 0; n < 47; n++) {
      sum += x.node(n, 0) == -3 ? n : 0;
    }
    due("each LEAF has one of its own", seen, sum);
  }

  private static void nodeNoSuch() {
    CHECK.says("Promise 7, -1");
    BestSplits x = Given.twoLevels();
    due("the last", x.node(6, 6), 1);
    for (int n : Given.outside(0, 6)) {
      due("node(" + n + ", 5)", x.node(n, 5), -1);
      due("node(" + n + ", 0)", x.node(n, 0), -1);
    }
    x.settings(1, 1, 0);
    due("a NODE that there is no more", x.node(3, 5), -1);
    due("a LEAF that was none", x.node(1, 0), -3);
  }

  private static void nodeWhatOutside() {
    CHECK.says("Promise 7, -2");
    BestSplits x = Given.twoLevels();
    for (int what : Given.outside(0, 8)) {
      due("node(0, " + what + ")", x.node(0, what), -2);
      due("node(6, " + what + ") of a LEAF", x.node(6, what), -2);
      due("node(0, " + what + ") without ROWS", Given.noRows().node(0, what), -2);
    }
  }

  private static void nodeOfLeaf() {
    CHECK.says("Promise 7, -3 (0 to 4) it is a LEAF");
    BestSplits x = Given.twoLevels();
    for (int n = 3; n <= 6; n++) {
      for (int what = 0; what <= 4; what++) {
        due("node(" + n + ", " + what + ")", x.node(n, what), -3);
      }
      due("depth", x.node(n, 5), 2);
      due("ROWS", x.node(n, 6), n % 2 == 1 ? 3 : 1);
      due("LABEL", x.node(n, 7), n % 2 == 0 ? 2 : n / 5);
      due("WRONG", x.node(n, 8), 0);
    }
  }

  private static void nodeRefusalsInOrder() {
    CHECK.says("Promise 7, the first that fits");
    BestSplits x = Given.twoLevels();
    due("no such NODE, what outside", x.node(7, 9), -1);
    due("no such NODE, what outside", x.node(-1, -1), -1);
    due("what outside, a LEAF", x.node(3, -1), -2);
  }

  private static void labelOfSeveral() {
    CHECK.says("Promise 7, LABEL the least of several; WRONG");
    int[][] classes = {{1, 0}, {2, 0}, {2, 1}, {2, 1, 0}, {2, 2, 1, 1, 0}, {1, 2, 2}, {2, 0, 0, 2}, {0, 1, 1}};
    int[] labels = {0, 0, 1, 0, 1, 2, 0, 1};
    int[] wrong = {1, 1, 1, 2, 3, 1, 2, 1};
    for (int i = 0; i < classes.length; i++) {
      BestSplits x = Given.byColumn0(new int[classes[i].length], classes[i]);
      due("LABEL of set " + i, x.node(0, 7), labels[i]);
      due("WRONG of set " + i, x.node(0, 8), wrong[i]);
    }
  }

  private static void bestOfEqualCuts() {
    CHECK.says("Promise 7, of these the least COLUMN, the least number, the least side");
    BestSplits x = new BestSplits();
    x.row(0, 9, 5, -1, 0);
    x.row(0, 8, 4, -1, 1);
    due("the least COLUMN, though its number is greater", x.node(0, 0), 1);
    due("its number", x.node(0, 1), 8);
    // 0 | 1 0 1 by 5 with side 1 and 0 1 1 | 0 by 6 with side 0; the other two part one of each twice
    BestSplits numbers = Given.byColumn0(new int[] {5, 6, 7, -1}, new int[] {0, 1, 0, 1});
    due("the least number, though its side is greater", numbers.node(0, 1), 5);
    due("its side", numbers.node(0, 2), 1);
    BestSplits sides = Given.byColumn0(new int[] {1, 3, -1}, new int[] {0, 1, 2});
    due("the least side", sides.node(0, 2), 0);
    // sets 1, 3 and 5 have the same GAIN
    BestSplits kinds = Given.byKinds(new int[] {0, 1, 2}, new int[] {0, 1, 2});
    due("the least set", kinds.node(0, 1), 1);
  }

  private static void bestIsOneThatMayBe() {
    CHECK.says("Promise 7, the BEST is one that MAY be");
    BestSplits x = Given.byColumn0(new int[] {1, 3, 3, -1}, new int[] {0, 1, 1, 1});
    due("side at LEAST 1", x.node(0, 2), 1);
    x.settings(3, 2, 0);
    due("NODES at LEAST 2", x.nodes(), 3);
    due("side 1 has one ROW at the left", x.node(0, 2), 0);
    due("ROWS at the left", x.node(1, 6), 2);
  }

  private static void sideWithoutUnknownOnes() {
    CHECK.says("Promise 7, if there are none 0 alone");
    BestSplits x = Given.byColumn0(new int[] {1, 3}, new int[] {0, 1});
    due("side", x.node(0, 2), 0);
    due("cuts()", x.cuts(), 1);
  }

  /** Column 1 has an UNKNOWN one, but at the other NODE of depth 1: the side is that of the NODE's own ROWS. */
  private static void sideOfUnknownOnesBelow() {
    CHECK.says("Promise 7, UNKNOWN ones of the NODE's own ROWS");
    BestSplits x = new BestSplits();
    for (int r = 0; r < 5; r++) {
      x.row(0, 0, 0, 0, 0);
      x.row(1, 0, 0, 0, 1);
    }
    x.row(0, 9, 0, 0, 2);
    x.row(1, 9, 0, 0, 2);
    x.row(1, -1, 0, 0, 2);
    due("NODE 1 by column", x.node(1, 0), 1);
    due("NODE 1, no UNKNOWN ones", x.node(1, 2), 0);
    due("NODE 2 by column", x.node(2, 0), 1);
    due("NODE 2, one UNKNOWN", x.node(2, 2), 1);
    due("UNKNOWN at NODE 1 goes left", x.leaf(0, -1, 0, 0), 3);
    due("UNKNOWN at NODE 2 goes right", x.leaf(1, -1, 0, 0), 6);
  }

  private static void countNoSuch() {
    CHECK.says("Promise 8, -1");
    BestSplits x = Given.twoLevels();
    for (int n : Given.outside(0, 6)) {
      due("count(" + n + ", 0)", x.count(n, 0), -1);
      due("count(" + n + ", 3)", x.count(n, 3), -1);
    }
    for (int cls : Given.outside(0, 2)) {
      due("count(0, " + cls + ")", x.count(0, cls), -1);
      due("count(6, " + cls + ") of a LEAF", x.count(6, cls), -1);
      due("count(0, " + cls + ") without ROWS", Given.noRows().count(0, cls), -1);
    }
  }

  private static void countNone() {
    CHECK.says("Promise 8, none and all");
    for (int cls = 0; cls < 3; cls++) {
      due("without ROWS", Given.noRows().count(0, cls), 0);
      int[] classes = new int[24];
      java.util.Arrays.fill(classes, cls);
      BestSplits x = Given.byColumn0(new int[24], classes);
      for (int other = 0; other < 3; other++) {
        due("of CLASS " + other, x.count(0, other), other == cls ? 24 : 0);
      }
    }
  }

  private static void gainPartOutside() {
    CHECK.says("Promise 9, -2");
    BestSplits x = Given.twoLevels();
    for (int part : Given.outside(0, 1)) {
      due("gain(0, " + part + ")", x.gain(0, part), -2);
    }
  }

  private static void gainOfLeaf() {
    CHECK.says("Promise 9, -3 it is a LEAF");
    BestSplits x = Given.twoLevels();
    for (int n = 0; n < 7; n++) {
      due("gain(" + n + ", 0)", x.gain(n, 0) == -3 ? 1 : 0, n < 3 ? 0 : 1);
      due("gain(" + n + ", 1)", x.gain(n, 1) == -3 ? 1 : 0, n < 3 ? 0 : 1);
    }
    x.settings(1, 1, 0);
    due("a LEAF that was none", x.gain(1, 0), -3);
    due("without ROWS", Given.noRows().gain(0, 1), -3);
  }

  private static void gainRefusalsInOrder() {
    CHECK.says("Promise 9, the first that fits");
    BestSplits x = Given.twoLevels();
    for (int n : Given.outside(0, 6)) {
      due("gain(" + n + ", 0)", x.gain(n, 0), -1);
      due("gain(" + n + ", 2)", x.gain(n, 2), -1);
    }
    due("part outside, a LEAF", x.gain(3, 2), -2);
    due("part outside, a LEAF", x.gain(0, -1), -2);
  }

  private static void gainInLowestTerms() {
    CHECK.says("Promise 9, in lowest terms");
    // 8 of each CLASS: 8 + 8 less 8, and then 8 + 8 less 8
    int[] blocks = new int[24];
    for (int r = 0; r < 24; r++) {
      blocks[r] = r / 8;
    }
    BestSplits three = Given.byColumn0(blocks, blocks);
    due("8 above", three.gain(0, 0), 8);
    due("1 below", three.gain(0, 1), 1);
    // 10 + 11 less 221 / 21
    BestSplits odd = Given.twoBlocks(10, 11);
    due("220 above", odd.gain(0, 0), 220);
    due("21 below", odd.gain(0, 1), 21);
    // 0 0 1 | 1: 5 / 3 + 1 less 2
    BestSplits third = Given.byColumn0(new int[] {0, 0, 0, 1}, new int[] {0, 0, 1, 1});
    due("2 above", third.gain(0, 0), 2);
    due("3 below", third.gain(0, 1), 3);
  }

  private static void leafOfNoRows() {
    CHECK.says("Promise 10, without ROWS");
    BestSplits x = Given.noRows();
    due("the least values", x.leaf(0, 0, 0, 0), 0);
    due("the greatest values", x.leaf(100, 100, 100, 100), 0);
    due("UNKNOWN ones", x.leaf(-1, -1, -1, -1), 0);
    due("outside", x.leaf(0, 0, 0, 101), -2);
  }

  private static void leafAtTheNumber() {
    CHECK.says("Promise 10, values up to t go left, others right");
    BestSplits x = Given.byColumn0(new int[] {40, 60}, new int[] {0, 1});
    int[] values = {0, 39, 40, 41, 59, 60, 61, 100};
    for (int value : values) {
      due("leaf of " + value, x.leaf(value, 0, 0, 0), value <= 40 ? 1 : 2);
    }
    BestSplits edge = Given.byColumn0(new int[] {99, 100}, new int[] {0, 1});
    due("leaf of 99", edge.leaf(99, 0, 0, 0), 1);
    due("leaf of 100", edge.leaf(100, 0, 0, 0), 2);
    BestSplits low = Given.byColumn0(new int[] {0, 1}, new int[] {0, 1});
    due("leaf of 0", low.leaf(0, 0, 0, 0), 1);
    due("leaf of 1", low.leaf(1, 0, 0, 0), 2);
  }

  private static void leafOfKindsThatNoRowHas() {
    CHECK.says("Promise 10, a kind that is not in the set goes right");
    BestSplits x = Given.byKinds(new int[] {2, 4}, new int[] {0, 1});
    for (int kind = 0; kind <= 5; kind++) {
      due("leaf of kind " + kind, x.leaf(kind, 0, 0, 0), kind == 2 ? 1 : 2);
    }
    BestSplits ends = Given.byKinds(new int[] {0, 3, 5}, new int[] {0, 1, 0});
    for (int kind = 0; kind <= 5; kind++) {
      due("leaf of kind " + kind, ends.leaf(kind, 0, 0, 0), kind == 0 || kind == 5 ? 1 : 2);
    }
  }

  private static void leafOfUnknown() {
    CHECK.says("Promise 10, UNKNOWN: the side");
    BestSplits none = Given.byColumn0(new int[] {1, 3}, new int[] {0, 1});
    due("no ROW had one", none.leaf(-1, 0, 0, 0), 1);
    BestSplits right = Given.byColumn0(new int[] {1, 3, -1}, new int[] {0, 1, 1});
    due("to the right", right.leaf(-1, 0, 0, 0), 2);
    BestSplits left = Given.byColumn0(new int[] {1, 3, -1}, new int[] {0, 1, 0});
    due("to the left", left.leaf(-1, 0, 0, 0), 1);
    BestSplits kind = Given.byKinds(new int[] {0, 5, -1}, new int[] {0, 1, 1});
    due("a kind, to the right", kind.leaf(-1, 0, 0, 0), 2);
    due("of a column that does not part", right.leaf(3, -1, -1, -1), 2);
  }

  private static void leafNumbersOutside() {
    CHECK.says("Promise 10, -2 one is neither -1 nor what its COLUMN has: numbers");
    BestSplits x = Given.twoLevels();
    for (int bad : Given.outside(-1, 100)) {
      due("a = " + bad, x.leaf(bad, 0, 0, 0), -2);
      due("b = " + bad, x.leaf(0, bad, 0, 0), -2);
      due("c = " + bad, x.leaf(0, 0, bad, 0), -2);
      due("d = " + bad, x.leaf(0, 0, 0, bad), -2);
    }
    due("the greatest", x.leaf(100, 100, 100, 100), 6);
    due("UNKNOWN", x.leaf(-1, -1, -1, -1), 3);
  }

  private static void leafKindsOutside() {
    CHECK.says("Promise 10, -2 one is neither -1 nor what its COLUMN has: kinds");
    BestSplits x = new BestSplits();
    x.column(0, 1);
    x.column(2, 1);
    for (int bad : Given.outside(-1, 5)) {
      due("a = " + bad, x.leaf(bad, 0, 0, 0), -2);
      due("c = " + bad, x.leaf(0, 0, bad, 0), -2);
    }
    due("the greatest of each", x.leaf(5, 100, 5, 100), 0);
    due("UNKNOWN", x.leaf(-1, -1, -1, -1), 0);
    x.column(0, 0);
    due("numbers again", x.leaf(100, 0, 0, 0), 0);
  }

  private static void leafOfRowNoSuch() {
    CHECK.says("Promise 11, -1");
    BestSplits x = Given.twoLevels();
    due("the first", x.leafOf(0), 3);
    due("the last", x.leafOf(7), 6);
    for (int r : Given.outside(0, 7)) {
      due("leafOf(" + r + ")", x.leafOf(r), -1);
      due("leafOf(" + r + ") without ROWS", Given.noRows().leafOf(r), -1);
    }
    BestSplits full = Given.fullTree();
    due("ROW 23 of 24", full.leafOf(23) > 0 ? 1 : 0, 1);
    for (int r : Given.outside(0, 23)) {
      due("leafOf(" + r + ") of 24", full.leafOf(r), -1);
    }
    full.clear();
    due("after clear", full.leafOf(0), -1);
  }

  private static void leafOfRowIsWhereItWent() {
    CHECK.says("Promise 11, UNKNOWN ones too");
    BestSplits x = Given.byColumn0(new int[] {1, 3, -1, 2, -1, 3}, new int[] {0, 1, 1, 0, 2, 2});
    int[] came = new int[x.nodes()];
    for (int r = 0; r < 6; r++) {
      came[x.leafOf(r)]++;
    }
    for (int n = 0; n < came.length; n++) {
      due("ROWS that come to NODE " + n, came[n], x.node(n, 0) == -3 ? x.node(n, 6) : 0);
    }
  }
}
