/** For each promise: ordinary inputs, the edges that the document names, and wrong inputs, all worked out by hand. */
public final class PromiseTests {
  private static final Check CHECK = new Check();
  private static final int LOW = Integer.MIN_VALUE;
  private static final int HIGH = Integer.MAX_VALUE;

  public static void main(String[] args) {
    newObject();
    column();
    row();
    clear();
    settings();
    nodes();
    nodesAreNumberedLevelByLevel();
    node();
    nodeOfEqualCuts();
    count();
    gain();
    leaf();
    leafOfKinds();
    leafOf();
    cuts();
    cutGain();
    cutGainOfKinds();
    stages();
    stagesStepByStep();
    nodesWithTheSameAlphaGoTogether();
    alpha();
    leavesAndWrong();
    state();
    leftOut();
    CHECK.end("PromiseTests");
  }

  private static void due(String call, int got, int want) {
    CHECK.due(call, got, want);
  }

  /** Rows of classes, told by column 0 alone. */
  private static BestSplits byColumn0(int[] values, int[] classes) {
    BestSplits x = new BestSplits();
    addByColumn0(x, values, classes);
    return x;
  }

  private static void addByColumn0(BestSplits x, int[] values, int[] classes) {
    for (int r = 0; r < values.length; r++) {
      due("row", x.row(values[r], 0, 0, 0, classes[r]), r);
    }
  }

  private static BestSplits twoAndTwo() {
    return byColumn0(new int[] {1, 1, 3, 3}, new int[] {0, 0, 1, 1});
  }

  private static BestSplits oneUnknown() {
    return byColumn0(new int[] {1, 3, -1}, new int[] {0, 1, 1});
  }

  /** Column 1 has kinds 1, 2, 4, of classes 0, 1, 0. */
  private static BestSplits threeKinds() {
    BestSplits x = new BestSplits();
    due("column(1, 1)", x.column(1, 1), 0);
    x.row(0, 1, 0, 0, 0);
    x.row(0, 2, 0, 0, 1);
    x.row(0, 4, 0, 0, 0);
    return x;
  }

  /** Classes 0 1 0 1 .. by column 0: as deep as the settings let it be. */
  private static BestSplits alternating(int rows) {
    BestSplits x = new BestSplits();
    for (int r = 0; r < rows; r++) {
      x.row(r, 0, 0, 0, r % 2);
    }
    return x;
  }

  private static int deepest(BestSplits x) {
    int deepest = 0;
    for (int n = 0; n < x.nodes(); n++) {
      deepest = Math.max(deepest, x.node(n, 5));
    }
    return deepest;
  }

  private static void newObject() {
    BestSplits x = new BestSplits();
    due("new leftOut", x.leftOut(), 0);
    due("new cuts", x.cuts(), 0);
    due("new stages", x.stages(), 1);
    for (int c = 0; c < 4; c++) {
      due("new column(" + c + ", 0)", x.column(c, 0), 0);
    }
    due("new clear", x.clear(), 0);
    due("DEPTH of a new one", deepest(alternating(24)), 3);
    BestSplits two = byColumn0(new int[] {1, 3}, new int[] {0, 1});
    due("LEAST of a new one", two.cuts(), 1);
    // 6 of 11 against 7 of 13: so small a GAIN is above no WORTH but 0
    BestSplits small = new BestSplits();
    for (int r = 0; r < 24; r++) {
      boolean isLeft = r < 11;
      small.row(isLeft ? 0 : 1, 0, 0, 0, (isLeft ? r < 6 : r < 18) ? 0 : 1);
    }
    due("small gain above", small.gain(0, 0), 1);
    due("small gain below", small.gain(0, 1), 1716);
    due("WORTH of a new one", small.nodes(), 3);
  }

  private static void column() {
    BestSplits x = new BestSplits();
    due("column(3, 1)", x.column(3, 1), 0);
    due("column(3, 1) again", x.column(3, 1), 1);
    due("column(3, 0)", x.column(3, 0), 1);
    due("column(3, 1)", x.column(3, 1), 0);
    due("column(0, 0)", x.column(0, 0), 0);
    for (int c : new int[] {-1, 4, LOW, HIGH}) {
      due("column(" + c + ", 0)", x.column(c, 0), -1);
      due("column(" + c + ", 7)", x.column(c, 7), -1);
    }
    for (int sort : new int[] {-1, 2, LOW, HIGH}) {
      due("column(0, " + sort + ")", x.column(0, sort), -2);
    }
    due("row of a kind too great", x.row(0, 0, 0, 6, 0), -2);
    due("row of a kind", x.row(0, 0, 0, 5, 0), 0);
    due("column with rows", x.column(3, 1), -3);
    due("column with rows, no such", x.column(4, 1), -1);
    due("column with rows, bounds", x.column(3, 2), -2);
    x.clear();
    due("refusals changed nothing", x.column(3, 0), 1);
  }

  private static void row() {
    BestSplits x = new BestSplits();
    x.column(1, 1);
    due("row of least values", x.row(0, 0, 0, 0, 0), 0);
    due("row of greatest values", x.row(100, 5, 100, 100, 2), 1);
    due("row of unknown values", x.row(-1, -1, -1, -1, 1), 2);
    for (int bad : new int[] {-2, 101, LOW, HIGH}) {
      due("a = " + bad, x.row(bad, 0, 0, 0, 0), -2);
      due("b = " + bad, x.row(0, bad, 0, 0, 0), -2);
      due("c = " + bad, x.row(0, 0, bad, 0, 0), -2);
      due("d = " + bad, x.row(0, 0, 0, bad, 0), -2);
    }
    due("kind 6", x.row(0, 6, 0, 0, 0), -2);
    for (int bad : new int[] {-1, 3, LOW, HIGH}) {
      due("class " + bad, x.row(0, 0, 0, 0, bad), -2);
    }
    for (int r = 3; r < 24; r++) {
      due("row", x.row(r, 0, 0, 0, 0), r);
    }
    due("row 24", x.row(0, 0, 0, 0, 0), -4);
    due("row 24, bounds first", x.row(101, 0, 0, 0, 0), -2);
    due("row 24, class first", x.row(0, 0, 0, 0, 3), -2);
    due("refusals changed nothing", x.node(0, 6), 24);
    due("count of class 0", x.count(0, 0), 22);
    due("clear", x.clear(), 24);
    due("row after clear", x.row(0, 0, 0, 0, 0), 0);
  }

  private static void clear() {
    BestSplits x = oneUnknown();
    x.settings(2, 2, 7);
    due("clear", x.clear(), 3);
    due("clear again", x.clear(), 0);
    due("nodes", x.nodes(), 1);
    due("rows", x.node(0, 6), 0);
    due("leafOf(0)", x.leafOf(0), -1);
    due("cuts", x.cuts(), 0);
    due("leftOut", x.leftOut(), 0);
    addByColumn0(x, new int[] {9, 8}, new int[] {1, 0});
    due("settings stay", x.cuts(), 0);
    x.settings(2, 1, 0);
    due("old rows are gone", x.cuts(), 1);
    due("by the new rows", x.node(0, 1), 8);
    due("class of a new row", x.count(0, 1), 1);
    due("unknown of an old row", x.cutGain(0, 8, 1, 0), -3);
    x.clear();
    addByColumn0(x, new int[] {-1, 8, 9}, new int[] {1, 0, 1});
    due("unknown where an old row was known", x.cutGain(0, 8, 1, 0), 4);
    due("the greatest known value", x.cutGain(0, 9, 0, 0), -3);
    BestSplits kinds = threeKinds();
    kinds.clear();
    due("sorts stay", kinds.column(1, 0), 1);
  }

  private static void settings() {
    BestSplits x = twoAndTwo();
    due("least bounds", x.settings(0, 1, 0), 1);
    due("nodes at DEPTH 0", x.nodes(), 1);
    due("greatest bounds", x.settings(5, 10, 1000), 1);
    due("cuts at LEAST 10", x.cuts(), 0);
    due("settings", x.settings(1, 2, 0), 1);
    for (int bad : new int[] {-1, 6, LOW, HIGH}) {
      due("DEPTH " + bad, x.settings(bad, 3, 1), -2);
    }
    for (int bad : new int[] {-1, 0, 11, LOW, HIGH}) {
      due("LEAST " + bad, x.settings(2, bad, 1), -2);
    }
    for (int bad : new int[] {-1, 1001, LOW, HIGH}) {
      due("WORTH " + bad, x.settings(2, 3, bad), -2);
    }
    due("refusals changed nothing", x.nodes(), 3);
    due("LEAST 3", x.settings(1, 3, 0), 1);
    due("nodes at LEAST 3", x.nodes(), 1);
    BestSplits deep = alternating(24);
    for (int depth = 0; depth <= 5; depth++) {
      due("settings", deep.settings(depth, 1, 0), 1);
      due("deepest at DEPTH " + depth, deepest(deep), depth);
    }
  }

  private static void nodes() {
    due("no rows", new BestSplits().nodes(), 1);
    BestSplits x = twoAndTwo();
    due("two and two", x.nodes(), 3);
    // the gain is 2, 100 times it 200
    x.settings(3, 1, 199);
    due("WORTH just below", x.nodes(), 3);
    x.settings(3, 1, 200);
    due("WORTH the same", x.nodes(), 1);
    due("one class", byColumn0(new int[] {1, 2}, new int[] {1, 1}).nodes(), 1);
    due("no known values", byColumn0(new int[] {-1, -1}, new int[] {0, 1}).nodes(), 1);
    due("one known value", byColumn0(new int[] {-1, 4}, new int[] {0, 1}).nodes(), 1);
    BestSplits crossed = crossed();
    due("GAIN 0 is not above WORTH 0", crossed.nodes(), 1);
    BestSplits grown = byColumn0(new int[] {1, 1}, new int[] {0, 0});
    due("before", grown.nodes(), 1);
    grown.row(3, 0, 0, 0, 1);
    due("a row changes it", grown.nodes(), 3);
  }

  /** No CUT by one column tells the classes apart at all. */
  private static BestSplits crossed() {
    BestSplits x = new BestSplits();
    x.row(0, 0, 0, 0, 0);
    x.row(1, 1, 0, 0, 0);
    x.row(0, 1, 0, 0, 1);
    x.row(1, 0, 0, 0, 1);
    return x;
  }

  /** Column 0 parts four from four; column 1 then parts each four. */
  private static BestSplits twoLevels() {
    BestSplits x = new BestSplits();
    x.row(0, 0, 0, 0, 0);
    x.row(0, 0, 0, 0, 0);
    x.row(0, 0, 0, 0, 0);
    x.row(0, 9, 0, 0, 2);
    x.row(1, 0, 0, 0, 1);
    x.row(1, 0, 0, 0, 1);
    x.row(1, 0, 0, 0, 1);
    x.row(1, 9, 0, 0, 2);
    return x;
  }

  private static void nodesAreNumberedLevelByLevel() {
    BestSplits x = twoLevels();
    due("nodes", x.nodes(), 7);
    int[][] due = {
      {0, 0, 0, 1, 2, 0, 8, 0, 5}, {1, 0, 0, 3, 4, 1, 4, 0, 1}, {1, 0, 0, 5, 6, 1, 4, 1, 1},
      {-3, -3, -3, -3, -3, 2, 3, 0, 0}, {-3, -3, -3, -3, -3, 2, 1, 2, 0},
      {-3, -3, -3, -3, -3, 2, 3, 1, 0}, {-3, -3, -3, -3, -3, 2, 1, 2, 0}
    };
    for (int n = 0; n < due.length; n++) {
      for (int what = 0; what < 9; what++) {
        due("node(" + n + ", " + what + ")", x.node(n, what), due[n][what]);
      }
    }
  }

  private static void node() {
    BestSplits x = oneUnknown();
    int[] due = {0, 1, 1, 1, 2, 0, 3, 1, 1};
    for (int what = 0; what < 9; what++) {
      due("node(0, " + what + ")", x.node(0, what), due[what]);
    }
    for (int bad : new int[] {-1, 3, LOW, HIGH}) {
      due("node(" + bad + ", 0)", x.node(bad, 0), -1);
      due("node(" + bad + ", 9)", x.node(bad, 9), -1);
    }
    for (int bad : new int[] {-1, 9, LOW, HIGH}) {
      due("node(0, " + bad + ")", x.node(0, bad), -2);
      due("node(1, " + bad + ")", x.node(1, bad), -2);
    }
    for (int what = 0; what <= 4; what++) {
      due("of a leaf", x.node(1, what), -3);
    }
    due("LABEL without rows", new BestSplits().node(0, 7), 0);
    BestSplits equal = byColumn0(new int[] {0, 0, 0, 0, 0}, new int[] {2, 1, 2, 1, 0});
    due("least LABEL of several", equal.node(0, 7), 1);
    due("WRONG", equal.node(0, 8), 3);
  }

  private static void nodeOfEqualCuts() {
    BestSplits columns = new BestSplits();
    columns.row(7, 3, 3, 3, 0);
    columns.row(7, 4, 4, 4, 1);
    due("least COLUMN", columns.node(0, 0), 1);
    BestSplits numbers = byColumn0(new int[] {0, 1, 2}, new int[] {0, 1, 0});
    due("least number", numbers.node(0, 1), 0);
    BestSplits sides = byColumn0(new int[] {1, 3, -1}, new int[] {0, 1, 2});
    due("least side", sides.node(0, 2), 0);
    due("both sides", sides.cuts(), 2);
    due("the same gain", sides.cutGain(0, 1, 1, 0), sides.cutGain(0, 1, 0, 0));
    // the best of all parts 1 from 3, which LEAST 2 rules out
    BestSplits least = byColumn0(new int[] {1, 2, 3, 4}, new int[] {0, 1, 1, 1});
    least.settings(3, 2, 0);
    due("the BEST of those that MAY be", least.node(0, 1), 2);
    due("its gain", least.gain(0, 0), 1);
    due("its gain", least.gain(0, 1), 2);
  }

  private static void count() {
    BestSplits x = twoLevels();
    int[][] due = {{3, 3, 2}, {3, 0, 1}, {0, 3, 1}, {3, 0, 0}, {0, 0, 1}, {0, 3, 0}, {0, 0, 1}};
    for (int n = 0; n < due.length; n++) {
      for (int cls = 0; cls < 3; cls++) {
        due("count(" + n + ", " + cls + ")", x.count(n, cls), due[n][cls]);
      }
    }
    for (int bad : new int[] {-1, 3, LOW, HIGH}) {
      due("class " + bad, x.count(0, bad), -1);
    }
    for (int bad : new int[] {-1, 7, LOW, HIGH}) {
      due("node " + bad, x.count(bad, 0), -1);
    }
    due("without rows", new BestSplits().count(0, 0), 0);
  }

  private static void gain() {
    BestSplits x = oneUnknown();
    due("above", x.gain(0, 0), 4);
    due("below", x.gain(0, 1), 3);
    due("of a leaf", x.gain(1, 0), -3);
    due("of a leaf", x.gain(2, 1), -3);
    for (int bad : new int[] {-1, 3, LOW, HIGH}) {
      due("node " + bad, x.gain(bad, 0), -1);
      due("node " + bad + ", part 2", x.gain(bad, 2), -1);
    }
    for (int bad : new int[] {-1, 2, LOW, HIGH}) {
      due("part " + bad, x.gain(0, bad), -2);
      due("part " + bad + " of a leaf", x.gain(1, bad), -2);
    }
    BestSplits whole = twoAndTwo();
    due("lowest terms", whole.gain(0, 0), 2);
    due("lowest terms", whole.gain(0, 1), 1);
  }

  private static void leaf() {
    due("no rows", new BestSplits().leaf(100, -1, 0, 50), 0);
    BestSplits x = oneUnknown();
    due("as great as the number", x.leaf(1, 0, 0, 0), 1);
    due("above the number", x.leaf(2, 0, 0, 0), 2);
    due("unknown: the side", x.leaf(-1, 0, 0, 0), 2);
    due("other columns are free", x.leaf(0, 100, -1, 100), 1);
    for (int bad : new int[] {-2, 101, LOW, HIGH}) {
      due("a = " + bad, x.leaf(bad, 0, 0, 0), -2);
      due("b = " + bad, x.leaf(0, bad, 0, 0), -2);
      due("c = " + bad, x.leaf(0, 0, bad, 0), -2);
      due("d = " + bad, x.leaf(0, 0, 0, bad), -2);
    }
    due("unknown where none was: side 0", twoAndTwo().leaf(-1, 0, 0, 0), 1);
    BestSplits two = twoLevels();
    due("two levels", two.leaf(1, 9, 0, 0), 6);
    due("two levels, unknown", two.leaf(-1, 9, 0, 0), 4);
    due("two levels, unknown", two.leaf(50, -1, 0, 0), 5);
  }

  private static void leafOfKinds() {
    BestSplits x = threeKinds();
    int[] due = {2, 1, 2, 2, 1, 2};
    for (int kind = 0; kind < 6; kind++) {
      due("kind " + kind, x.leaf(0, kind, 0, 0), due[kind]);
    }
    due("kind 6", x.leaf(0, 6, 0, 0), -2);
    due("unknown kind", x.leaf(0, -1, 0, 0), 1);
  }

  private static void leafOf() {
    BestSplits x = oneUnknown();
    due("leafOf(0)", x.leafOf(0), 1);
    due("leafOf(1)", x.leafOf(1), 2);
    due("leafOf(2)", x.leafOf(2), 2);
    for (int bad : new int[] {-1, 3, 24, LOW, HIGH}) {
      due("leafOf(" + bad + ")", x.leafOf(bad), -1);
    }
    BestSplits deep = alternating(24);
    deep.settings(5, 1, 0);
    for (int r = 0; r < 24; r++) {
      due("a LEAF, however deep", deep.node(deep.leafOf(r), 0), -3);
    }
    BestSplits kinds = threeKinds();
    due("leafOf(1)", kinds.leafOf(1), 2);
    due("leafOf(2)", kinds.leafOf(2), 1);
  }

  private static void cuts() {
    due("no rows", new BestSplits().cuts(), 0);
    due("one number", twoAndTwo().cuts(), 1);
    due("both sides", oneUnknown().cuts(), 2);
    due("sets with the least kind", threeKinds().cuts(), 3);
    BestSplits one = byColumn0(new int[] {4, -1, -1}, new int[] {0, 1, 2});
    due("the greatest value is none", one.cuts(), 0);
    BestSplits all = new BestSplits();
    for (int c = 0; c < 4; c++) {
      all.column(c, 1);
    }
    for (int kind = 0; kind < 6; kind++) {
      all.row(kind, kind, kind, kind, 0);
    }
    due("all kinds, one class", all.cuts(), 4 * 31);
    all.row(-1, -1, 0, 0, 0);
    due("both sides of two columns", all.cuts(), 6 * 31);
    all.settings(0, 3, 1000);
    // of 7 rows by two columns without unknown ones: kind 0 twice; left 3 or 4
    due("DEPTH and WORTH do not matter, LEAST does", all.cuts(), 2 * (5 + 10) + 2 * (10 + 10 + 10 + 5));
    BestSplits wide = byColumn0(new int[] {0, 100, 50, -1}, new int[] {0, 0, 0, 0});
    due("0 and 50, both sides", wide.cuts(), 4);
    wide.settings(3, 2, 0);
    due("LEAST 2", wide.cuts(), 2);
  }

  private static void cutGain() {
    BestSplits x = oneUnknown();
    int[][] due = {{1, 3}, {4, 3}};
    for (int side = 0; side < 2; side++) {
      for (int part = 0; part < 2; part++) {
        due("side " + side + ", part " + part, x.cutGain(0, 1, side, part), due[side][part]);
      }
    }
    for (int bad : new int[] {-1, 4, LOW, HIGH}) {
      due("column " + bad, x.cutGain(bad, 1, 0, 0), -1);
      due("column " + bad + ", side 2", x.cutGain(bad, 1, 2, 2), -1);
    }
    for (int bad : new int[] {-1, 2, LOW, HIGH}) {
      due("side " + bad, x.cutGain(0, 1, bad, 0), -2);
      due("part " + bad, x.cutGain(0, 1, 0, bad), -2);
      due("no such cut, part " + bad, x.cutGain(0, 2, 0, bad), -2);
    }
    for (int none : new int[] {-1, 0, 2, 3, 100, 101, LOW, HIGH}) {
      due("number " + none, x.cutGain(0, none, 0, 0), -3);
      due("number " + none, x.cutGain(0, none, 1, 1), -3);
    }
    due("one value alone", x.cutGain(1, 0, 0, 0), -3);
    due("no unknown ones: side 0 alone", twoAndTwo().cutGain(0, 1, 1, 0), -3);
    x.settings(3, 2, 0);
    due("LEAST rules side 0 out", x.cutGain(0, 1, 0, 0), -3);
    due("LEAST rules side 1 out", x.cutGain(0, 1, 1, 0), -3);
    BestSplits none = crossed();
    due("0 above", none.cutGain(0, 0, 0, 0), 0);
    due("1 below", none.cutGain(0, 0, 0, 1), 1);
    none.settings(0, 2, 1000);
    due("DEPTH and WORTH do not matter", none.cutGain(1, 0, 0, 1), 1);
    BestSplits edge = byColumn0(new int[] {0, 99, 100}, new int[] {0, 1, 2});
    due("number 0", edge.cutGain(0, 0, 0, 0), 1);
    due("number 99", edge.cutGain(0, 99, 0, 0), 1);
    due("number 100", edge.cutGain(0, 100, 0, 0), -3);
  }

  private static void cutGainOfKinds() {
    BestSplits x = threeKinds();
    due("set 2 above", x.cutGain(1, 2, 0, 0), 1);
    due("set 2 below", x.cutGain(1, 2, 0, 1), 3);
    due("set 6 above", x.cutGain(1, 6, 0, 0), 1);
    due("set 18 above", x.cutGain(1, 18, 0, 0), 4);
    due("set 18 below", x.cutGain(1, 18, 0, 1), 3);
    due("the BEST", x.node(0, 1), 18);
    for (int none : new int[] {LOW, -1, 0, 1, 3, 4, 10, 16, 20, 22, 50, 63, 64, 66, 100, HIGH}) {
      due("set " + none, x.cutGain(1, none, 0, 0), -3);
    }
    due("side 1 without unknown ones", x.cutGain(1, 2, 1, 0), -3);
    x.row(0, -1, 0, 0, 1);
    due("unknown to the left", x.cutGain(1, 18, 0, 0), 2);
    due("unknown to the left", x.cutGain(1, 18, 0, 1), 3);
    due("unknown to the right", x.cutGain(1, 18, 1, 0), 2);
    due("unknown to the right", x.cutGain(1, 18, 1, 1), 1);
  }

  private static void stages() {
    due("no rows", new BestSplits().stages(), 1);
    BestSplits x = twoAndTwo();
    due("two and two", x.stages(), 2);
    x.settings(0, 1, 0);
    due("a LEAF alone", x.stages(), 1);
    due("two levels", twoLevels().stages(), 3);
  }

  /** Below NODE 0 both NODES have (1 - 0) by 1; NODE 0 has (5 - 0) by 3 first, then (5 - 2) by 1. */
  private static void stagesStepByStep() {
    BestSplits x = twoLevels();
    int[][] due = {{0, 1, 4, 0}, {1, 1, 2, 2}, {3, 1, 1, 5}};
    int[][] states = {{0, 0, 0, 1, 1, 1, 1}, {0, 1, 1, 2, 2, 2, 2}, {1, 2, 2, 2, 2, 2, 2}};
    for (int stage = 0; stage < 3; stage++) {
      due("alpha above", x.alpha(stage, 0), due[stage][0]);
      due("alpha below", x.alpha(stage, 1), due[stage][1]);
      due("leaves(" + stage + ")", x.leaves(stage), due[stage][2]);
      due("wrong(" + stage + ")", x.wrong(stage), due[stage][3]);
      for (int n = 0; n < 7; n++) {
        due("state(" + stage + ", " + n + ")", x.state(stage, n), states[stage][n]);
      }
    }
  }

  /** 0 1 0 by column 0: NODE 0 has (1 - 0) by 2, the NODE below it 1 by 1. */
  private static void nodesWithTheSameAlphaGoTogether() {
    BestSplits x = byColumn0(new int[] {0, 1, 2}, new int[] {0, 1, 0});
    due("nodes", x.nodes(), 5);
    due("stages", x.stages(), 2);
    due("alpha above", x.alpha(1, 0), 1);
    due("alpha below", x.alpha(1, 1), 2);
    due("NODE 0", x.state(1, 0), 1);
    due("NODE 2", x.state(1, 2), 2);
    due("NODE 4", x.state(1, 4), 2);
    // NODE 0 has (2 - 0) by 2, the parted NODE below it (1 - 0) by 1: the same
    BestSplits equal = byColumn0(new int[] {0, 1, 2}, new int[] {0, 1, 2});
    due("nodes", equal.nodes(), 5);
    due("stages", equal.stages(), 2);
    due("alpha above", equal.alpha(1, 0), 1);
    due("alpha below", equal.alpha(1, 1), 1);
    due("NODE 2 is GONE, not a LEAF", equal.state(1, 2), 2);
    due("leaves", equal.leaves(1), 1);
  }

  private static void alpha() {
    BestSplits x = twoAndTwo();
    due("STAGE 0", x.alpha(0, 0), 0);
    due("STAGE 0", x.alpha(0, 1), 1);
    due("STAGE 1", x.alpha(1, 0), 2);
    due("STAGE 1", x.alpha(1, 1), 1);
    for (int bad : new int[] {-1, 2, 24, LOW, HIGH}) {
      due("stage " + bad, x.alpha(bad, 0), -1);
      due("stage " + bad + ", part 2", x.alpha(bad, 2), -1);
    }
    for (int bad : new int[] {-1, 2, LOW, HIGH}) {
      due("part " + bad, x.alpha(0, bad), -2);
      due("part " + bad, x.alpha(1, bad), -2);
    }
    // a CUT that makes no LABEL better: 0 as 0 / 1
    BestSplits none = byColumn0(new int[] {0, 0, 1, 1, 1}, new int[] {0, 0, 0, 0, 1});
    due("nodes", none.nodes(), 3);
    due("0 above", none.alpha(1, 0), 0);
    due("1 below", none.alpha(1, 1), 1);
    due("the same WRONG", none.wrong(0), 1);
    due("the same WRONG", none.wrong(1), 1);
    none.settings(0, 1, 0);
    due("no STAGE 1 any more", none.alpha(1, 0), -1);
  }

  private static void leavesAndWrong() {
    BestSplits x = twoAndTwo();
    due("leaves(0)", x.leaves(0), 2);
    due("leaves(1)", x.leaves(1), 1);
    due("wrong(0)", x.wrong(0), 0);
    due("wrong(1)", x.wrong(1), 2);
    for (int bad : new int[] {-1, 2, 24, LOW, HIGH}) {
      due("leaves(" + bad + ")", x.leaves(bad), -1);
      due("wrong(" + bad + ")", x.wrong(bad), -1);
    }
    due("leaves without rows", new BestSplits().leaves(0), 1);
    due("wrong without rows", new BestSplits().wrong(0), 0);
  }

  private static void state() {
    BestSplits x = twoAndTwo();
    int[][] due = {{0, 1, 1}, {1, 2, 2}};
    for (int stage = 0; stage < 2; stage++) {
      for (int n = 0; n < 3; n++) {
        due("state(" + stage + ", " + n + ")", x.state(stage, n), due[stage][n]);
      }
    }
    for (int bad : new int[] {-1, 2, 24, LOW, HIGH}) {
      due("stage " + bad, x.state(bad, 0), -1);
    }
    for (int bad : new int[] {-1, 3, 47, LOW, HIGH}) {
      due("node " + bad, x.state(0, bad), -1);
    }
  }

  private static void leftOut() {
    due("one of class 0, no others", byColumn0(new int[] {1}, new int[] {0}).leftOut(), 0);
    due("one of class 2, no others", byColumn0(new int[] {1}, new int[] {2}).leftOut(), 1);
    due("one of each", byColumn0(new int[] {1, 3}, new int[] {0, 1}).leftOut(), 2);
    BestSplits x = twoAndTwo();
    due("two and two", x.leftOut(), 0);
    due("THE TREE of all rows stays", x.node(0, 6), 4);
    x.settings(0, 1, 0);
    due("without a cut", x.leftOut(), 4);
    x.settings(3, 1, 0);
    // 2 goes right without it: the tree of the others cuts at 1
    x.row(2, 0, 0, 0, 0);
    due("one more", x.leftOut(), 1);
    // unknown goes left: without it there are none, so the side is 0
    BestSplits unknown = byColumn0(new int[] {1, 1, 3, 3, -1}, new int[] {0, 0, 1, 1, 1});
    due("unknown", unknown.leftOut(), 1);
    unknown.clear();
    due("after clear", unknown.leftOut(), 0);
  }
}
