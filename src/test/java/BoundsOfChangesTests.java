import static java.util.Arrays.fill;

/** The boundary cases of promises 1 to 5 and of the terms that they use, a test for each. */
public final class BoundsOfChangesTests {
  private static final Check CHECK = new Check();

  public static void main(String[] args) {
    newColumnsAreOfNumbers();
    newObjectHasNoRows();
    newSettings();
    objectsShareNothing();
    columnFirstAndLast();
    columnNoSuch();
    columnSortOutside();
    columnWithRows();
    columnAfterRefusedRow();
    columnAfterClear();
    columnRefusalsInOrder();
    rowNumbersValues();
    rowKindsValues();
    rowUnknown();
    rowClasses();
    rowNumbersAndRoom();
    rowRefusalsInOrder();
    rowRefusedTakesNoNumber();
    clearNoRows();
    clearFull();
    clearForgetsValues();
    clearKeepsTheRest();
    settingsBounds();
    settingsOutside();
    settingsRefusedWhole();
    the512thCall();
    CHECK.end("BoundsOfChangesTests");
  }

  private static void due(String call, int got, int want) {
    CHECK.due(call, got, want);
  }

  private static int rowWith(BestSplits x, int c, int value, int others) {
    int[] row = new int[4];
    fill(row, others);
    row[c] = value;
    return x.row(row[0], row[1], row[2], row[3], 0);
  }

  private static void newColumnsAreOfNumbers() {
    CHECK.says("Promise 1, all COLUMNS of SORT 0");
    BestSplits x = new BestSplits();
    for (int c = 0; c < 4; c++) {
      due("column(" + c + ", 1)", x.column(c, 1), 0);
    }
    due("row of the greatest numbers", new BestSplits().row(100, 100, 100, 100, 0), 0);
  }

  private static void newObjectHasNoRows() {
    CHECK.says("Promise 1, no ROWS");
    due("clear()", new BestSplits().clear(), 0);
    due("leafOf(0)", new BestSplits().leafOf(0), -1);
    due("ROWS of NODE 0", new BestSplits().node(0, 6), 0);
    due("the first ROW", new BestSplits().row(0, 0, 0, 0, 0), 0);
  }

  private static void newSettings() {
    CHECK.says("Promise 1, DEPTH 3, LEAST 1, WORTH 0");
    BestSplits x = Given.alternating(24);
    int deepest = 0;
    for (int n = 0; n < x.nodes(); n++) {
      deepest = Math.max(deepest, x.node(n, 5));
    }
    due("deepest of a tree that could go deeper", deepest, 3);
    due("CUT of one ROW from one", Given.byColumn0(new int[] {0, 1}, new int[] {0, 1}).cuts(), 1);
    // 6 of 11 and 7 of 13 are of class 0: 1 / 1716, of which no WORTH but 0 is below 100 times
    BestSplits small = new BestSplits();
    for (int r = 0; r < 24; r++) {
      small.row(r < 11 ? 0 : 1, 0, 0, 0, r < 6 || r >= 11 && r < 18 ? 0 : 1);
    }
    due("NODES by a GAIN of 1 / 1716", small.nodes(), 3);
    small.settings(3, 1, 1);
    due("NODES at WORTH 1", small.nodes(), 1);
  }

  private static void objectsShareNothing() {
    CHECK.says("Promise 1, a second object is new");
    BestSplits used = Given.byKinds(new int[] {1, 2}, new int[] {0, 1});
    used.settings(0, 10, 1000);
    used.nodes();
    BestSplits x = new BestSplits();
    due("clear()", x.clear(), 0);
    due("column(0, 0)", x.column(0, 0), 0);
    x.row(1, 0, 0, 0, 0);
    x.row(2, 0, 0, 0, 1);
    due("nodes()", x.nodes(), 3);
    due("nodes() of the first", used.nodes(), 1);
    due("clear() of the first", used.clear(), 2);
  }

  private static void columnFirstAndLast() {
    CHECK.says("Promise 2, what it was");
    BestSplits x = new BestSplits();
    for (int c : new int[] {0, 3}) {
      due("column(" + c + ", 1)", x.column(c, 1), 0);
      due("column(" + c + ", 1) again", x.column(c, 1), 1);
      due("column(" + c + ", 0)", x.column(c, 0), 1);
      due("column(" + c + ", 0) again", x.column(c, 0), 0);
    }
    due("column(1, 0): others stay", x.column(1, 0), 0);
  }

  private static void columnNoSuch() {
    CHECK.says("Promise 2, -1");
    for (int c : Given.outside(0, 3)) {
      due("column(" + c + ", 1)", new BestSplits().column(c, 1), -1);
    }
  }

  private static void columnSortOutside() {
    CHECK.says("Promise 2, -2");
    for (int sort : Given.outside(0, 1)) {
      BestSplits x = new BestSplits();
      x.column(3, 1);
      due("column(3, " + sort + ")", x.column(3, sort), -2);
      due("the SORT stays", x.column(3, 0), 1);
    }
  }

  private static void columnWithRows() {
    CHECK.says("Promise 2, -3 there are ROWS");
    BestSplits x = new BestSplits();
    x.row(0, 0, 0, 0, 0);
    due("one ROW, another SORT", x.column(0, 1), -3);
    due("one ROW, the same SORT", x.column(0, 0), -3);
    due("24 ROWS", Given.fullTree().column(3, 1), -3);
    due("the SORT stays: a number", x.row(100, 100, 100, 100, 0), 1);
    x.clear();
    due("the SORT stays", x.column(0, 0), 0);
  }

  private static void columnAfterRefusedRow() {
    CHECK.says("Promise 2, a refused ROW is none");
    BestSplits x = new BestSplits();
    x.row(0, 0, 0, 0, 3);
    x.row(101, 0, 0, 0, 0);
    due("column(0, 1)", x.column(0, 1), 0);
  }

  private static void columnAfterClear() {
    CHECK.says("Promise 2, no ROWS any more");
    BestSplits x = Given.fullTree();
    due("before", x.column(2, 1), -3);
    x.clear();
    due("after clear", x.column(2, 1), 0);
    due("a kind too great", x.row(0, 0, 6, 0, 0), -2);
  }

  private static void columnRefusalsInOrder() {
    CHECK.says("Promise 2, the first that fits");
    BestSplits x = new BestSplits();
    due("no such COLUMN, no such SORT", x.column(4, 2), -1);
    x.row(0, 0, 0, 0, 0);
    due("no such COLUMN, with ROWS", x.column(4, 0), -1);
    due("no such SORT, with ROWS", x.column(0, 2), -2);
    due("all three", x.column(-1, -1), -1);
  }

  private static void rowNumbersValues() {
    CHECK.says("Promise 3, numbers 0 to 100");
    for (int c = 0; c < 4; c++) {
      BestSplits x = new BestSplits();
      due("0 in " + c, rowWith(x, c, 0, 50), 0);
      due("100 in " + c, rowWith(x, c, 100, 50), 1);
      for (int value : Given.outside(-1, 100)) {
        due(value + " in " + c, rowWith(x, c, value, 50), -2);
      }
      due("ROWS", x.clear(), 2);
    }
  }

  private static void rowKindsValues() {
    CHECK.says("Promise 3, kinds 0 to 5");
    for (int c = 0; c < 4; c++) {
      BestSplits x = new BestSplits();
      x.column(c, 1);
      due("0 in " + c, rowWith(x, c, 0, 100), 0);
      due("5 in " + c, rowWith(x, c, 5, 100), 1);
      for (int value : Given.outside(-1, 5)) {
        due(value + " in " + c, rowWith(x, c, value, 100), -2);
      }
      due("100 in " + c, rowWith(x, c, 100, 100), -2);
      due("ROWS", x.clear(), 2);
    }
  }

  private static void rowUnknown() {
    CHECK.says("Promise 3, or UNKNOWN (-1)");
    BestSplits x = new BestSplits();
    x.column(1, 1);
    for (int c = 0; c < 4; c++) {
      due("-1 in " + c, rowWith(x, c, -1, 5), c);
    }
    due("-1 in all", x.row(-1, -1, -1, -1, 2), 4);
    due("-2 in all", x.row(-2, -2, -2, -2, 2), -2);
  }

  private static void rowClasses() {
    CHECK.says("Promise 3, a CLASS, 0 .. 2");
    BestSplits x = new BestSplits();
    due("CLASS 0", x.row(0, 0, 0, 0, 0), 0);
    due("CLASS 2", x.row(0, 0, 0, 0, 2), 1);
    for (int cls : Given.outside(0, 2)) {
      due("CLASS " + cls, x.row(0, 0, 0, 0, cls), -2);
    }
    due("of CLASS 0", x.count(0, 0), 1);
    due("of CLASS 1", x.count(0, 1), 0);
    due("of CLASS 2", x.count(0, 2), 1);
  }

  private static void rowNumbersAndRoom() {
    CHECK.says("Promise 3, numbered 0, 1, .. (24 at most), -4");
    BestSplits x = new BestSplits();
    for (int r = 0; r < 24; r++) {
      due("row", x.row(r, 0, 0, 0, r % 3), r);
    }
    due("one more", x.row(99, 0, 0, 0, 0), -4);
    due("and again", x.row(99, 0, 0, 0, 0), -4);
    due("ROWS", x.node(0, 6), 24);
    due("of CLASS 0", x.count(0, 0), 8);
    due("no CUT by its value", x.cutGain(0, 23, 0, 0), -3);
    due("the last ROW is there", x.leafOf(23) >= 0 ? 1 : 0, 1);
  }

  private static void rowRefusalsInOrder() {
    CHECK.says("Promise 3, -2 before -4");
    BestSplits x = Given.fullTree();
    due("a value outside", x.row(0, 0, 0, 101, 0), -2);
    due("a CLASS outside", x.row(0, 0, 0, 0, 3), -2);
    due("both", x.row(-2, 0, 0, 0, -1), -2);
    due("neither", x.row(0, 0, 0, 100, 0), -4);
  }

  private static void rowRefusedTakesNoNumber() {
    CHECK.says("Promise 3, a refused ROW takes no number");
    BestSplits x = new BestSplits();
    due("row", x.row(1, 0, 0, 0, 0), 0);
    due("refused by its last value", x.row(2, 2, 2, 101, 1), -2);
    due("refused by its CLASS", x.row(2, 2, 2, 2, 3), -2);
    due("cuts()", x.cuts(), 0);
    due("the next", x.row(3, 0, 0, 0, 1), 1);
    due("the only CUT", x.cuts(), 1);
    due("is at 1", x.node(0, 1), 1);
  }

  private static void clearNoRows() {
    CHECK.says("Promise 4, how many there were: none");
    BestSplits x = new BestSplits();
    due("clear()", x.clear(), 0);
    due("clear() again", x.clear(), 0);
    due("the first ROW", x.row(0, 0, 0, 0, 0), 0);
    due("one ROW", x.clear(), 1);
    due("none again", x.clear(), 0);
  }

  private static void clearFull() {
    CHECK.says("Promise 4, how many there were: 24");
    BestSplits x = Given.fullTree();
    due("NODES before", x.nodes(), 47);
    due("leftOut() is not 0 before", x.leftOut() > 0 ? 1 : 0, 1);
    due("clear()", x.clear(), 24);
    due("NODES", x.nodes(), 1);
    due("STAGES", x.stages(), 1);
    due("CUTS", x.cuts(), 0);
    due("leftOut()", x.leftOut(), 0);
    for (int r = 0; r < 24; r++) {
      due("room again", x.row(0, 0, 0, 0, 1), r);
    }
    due("full again", x.row(0, 0, 0, 0, 1), -4);
    due("nothing of the old ROWS", x.cuts(), 0);
    due("none of the old CLASSES", x.count(0, 1), 24);
    due("full again", x.clear(), 24);
  }

  private static void clearForgetsValues() {
    CHECK.says("Promise 4, the least and the greatest values go too");
    BestSplits x = Given.byColumn0(new int[] {0, 100, 50}, new int[] {0, 1, 2});
    due("CUTS before", x.cuts(), 2);
    x.clear();
    x.row(-1, 0, 0, 0, 0);
    x.row(-1, 0, 0, 0, 1);
    x.row(50, 0, 0, 0, 0);
    x.row(60, 0, 0, 0, 1);
    due("CUTS: at 50, both sides", x.cuts(), 2);
    due("no CUT at 0", x.cutGain(0, 0, 0, 0), -3);
    due("no CUT at 100", x.cutGain(0, 100, 0, 0), -3);
    due("what was known goes to its side", x.cutGain(0, 50, 1, 1), 3);
    x.row(-1, 0, 0, 0, 0);
    due("CUTS with UNKNOWN where no ROW was", x.cuts(), 2);
    due("no CUT at 100, side 1", x.cutGain(0, 100, 1, 0), -3);
    BestSplits kinds = Given.byKinds(new int[] {0, 5, 3}, new int[] {0, 1, 2});
    due("CUTS before", kinds.cuts(), 3);
    kinds.clear();
    kinds.row(-1, 0, 0, 0, 0);
    kinds.row(-1, 0, 0, 0, 1);
    kinds.row(2, 0, 0, 0, 0);
    kinds.row(4, 0, 0, 0, 1);
    due("CUTS: by 4, both sides", kinds.cuts(), 2);
    due("the least kind is 2", kinds.cutGain(0, 4, 1, 1), 3);
    due("none with kind 0", kinds.cutGain(0, 5, 0, 0), -3);
  }

  private static void clearKeepsTheRest() {
    CHECK.says("Promise 4, only the ROWS go");
    BestSplits x = Given.byKinds(new int[] {1, 2}, new int[] {0, 1});
    x.settings(5, 10, 1000);
    x.clear();
    due("the SORT stays", x.row(6, 0, 0, 0, 0), -2);
    due("the SORT of others stays", x.row(5, 6, 6, 6, 0), 0);
    for (int r = 1; r < 19; r++) {
      x.row(r < 10 ? 5 : 4, 0, 0, 0, r < 10 ? 0 : 1);
    }
    due("LEAST stays: 9 and 10", x.cuts(), 0);
    x.row(4, 0, 0, 0, 1);
    due("10 and 10", x.cuts(), 1);
    due("WORTH stays: 1000 is not above it", x.nodes(), 1);
    x.settings(5, 10, 999);
    due("999 is below", x.nodes(), 3);
  }

  private static void settingsBounds() {
    CHECK.says("Promise 5, DEPTH (0 to 5), LEAST (1 to 10), WORTH (0 to 1000)");
    BestSplits x = new BestSplits();
    due("all the least", x.settings(0, 1, 0), 1);
    due("all the greatest", x.settings(5, 10, 1000), 1);
    due("the same again", x.settings(5, 10, 1000), 1);
    due("with 24 ROWS", Given.fullTree().settings(0, 10, 0), 1);
    for (int depth = 0; depth <= 5; depth++) {
      due("DEPTH " + depth, x.settings(depth, 1, 0), 1);
    }
    for (int least = 1; least <= 10; least++) {
      due("LEAST " + least, x.settings(0, least, 0), 1);
    }
    due("WORTH 1", x.settings(0, 1, 1), 1);
    due("WORTH 999", x.settings(0, 1, 999), 1);
  }

  private static void settingsOutside() {
    CHECK.says("Promise 5, -2");
    BestSplits x = new BestSplits();
    for (int depth : Given.outside(0, 5)) {
      due("DEPTH " + depth, x.settings(depth, 1, 0), -2);
    }
    for (int least : Given.outside(1, 10)) {
      due("LEAST " + least, x.settings(0, least, 0), -2);
    }
    for (int worth : Given.outside(0, 1000)) {
      due("WORTH " + worth, x.settings(0, 1, worth), -2);
    }
    due("all outside", x.settings(-1, 0, -1), -2);
  }

  private static void settingsRefusedWhole() {
    CHECK.says("Promise 5, a refusal leaves all three");
    int[][] refused = {{0, 10, 1001}, {0, 11, 1000}, {0, 0, 1000}, {6, 10, 1000}, {-1, 10, 1000}, {0, 10, -1}};
    for (int[] s : refused) {
      BestSplits x = Given.twoBlocks(2, 2);
      due("refused", x.settings(s[0], s[1], s[2]), -2);
      due("NODES", x.nodes(), 3);
      due("CUTS", x.cuts(), 1);
    }
  }

  private static void the512thCall() {
    CHECK.says("What it is, at most 512 calls");
    BestSplits x = Given.twoLevels();
    int used = 8;
    while (used < 500) {
      due("call " + used, x.row(-2, 0, 0, 0, 0), -2);
      due("call " + (used + 1), x.settings(5 - used / 2 % 2, 1, 0), 1);
      used += 2;
    }
    due("call 501", x.nodes(), 7);
    due("call 502", x.node(6, 7), 2);
    due("call 503", x.stages(), 3);
    due("call 504", x.cuts(), 2);
    due("call 505", x.leafOf(7), 6);
    due("call 506", x.alpha(2, 0), 3);
    due("call 507", x.clear(), 8);
    due("call 508", x.column(0, 1), 0);
    due("call 509", x.row(5, 100, 100, 100, 2), 0);
    due("call 510", x.leftOut(), 1);
    due("call 511", x.node(0, 7), 2);
    due("call 512", x.clear(), 1);
  }
}
