/** The boundary cases of promises 12 and 13 and of the terms that they use, a test for each. */
public final class BoundsOfCutsTests {
  private static final Check CHECK = new Check();

  public static void main(String[] args) {
    cutsOfFewRows();
    cutsOfUnknownOnes();
    cutsAsManyAsCanBe();
    cutsAtLeast();
    cutsWhateverTheTree();
    cutGainNoSuchColumn();
    cutGainSideOutside();
    cutGainPartOutside();
    cutGainRefusalsInOrder();
    cutGainWithoutRows();
    numberIsAKnownValue();
    numberIsNotTheGreatest();
    setHasTheLeastKind();
    setIsNotAll();
    setIsOfKindsThatTheyHave();
    setOfAllSixKinds();
    sideOneWithoutUnknownOnes();
    mayBeAtLeast();
    nothingAsZeroByOne();
    lowestTerms();
    sortTellsTheNumber();
    CHECK.end("BoundsOfCutsTests");
  }

  private static void due(String call, int got, int want) {
    CHECK.due(call, got, want);
  }

  private static void dueGain(BestSplits x, int number, int side, int above, int below) {
    due("cutGain(0, " + number + ", " + side + ", 0)", x.cutGain(0, number, side, 0), above);
    due("cutGain(0, " + number + ", " + side + ", 1)", x.cutGain(0, number, side, 1), below);
  }

  private static void dueNone(BestSplits x, int number, int side) {
    dueGain(x, number, side, -3, -3);
  }

  private static void cutsOfFewRows() {
    CHECK.says("Promise 12, no ROWS and few");
    due("none", Given.noRows().cuts(), 0);
    due("one", Given.byColumn0(new int[] {5}, new int[] {0}).cuts(), 0);
    due("two, the same values", Given.byColumn0(new int[] {5, 5}, new int[] {0, 1}).cuts(), 0);
    due("two, other values", Given.byColumn0(new int[] {5, 6}, new int[] {0, 1}).cuts(), 1);
    due("two, other kinds", Given.byKinds(new int[] {5, 0}, new int[] {0, 1}).cuts(), 1);
  }

  private static void cutsOfUnknownOnes() {
    CHECK.says("Promise 12, UNKNOWN ones");
    due("none known", Given.byColumn0(new int[] {-1, -1, -1}, new int[] {0, 1, 2}).cuts(), 0);
    due("one known", Given.byColumn0(new int[] {-1, 4, -1}, new int[] {0, 1, 2}).cuts(), 0);
    due("one known kind", Given.byKinds(new int[] {-1, 4, -1}, new int[] {0, 1, 2}).cuts(), 0);
    due("two known", Given.byColumn0(new int[] {-1, 4, 5}, new int[] {0, 1, 2}).cuts(), 2);
    due("two known kinds", Given.byKinds(new int[] {-1, 4, 5}, new int[] {0, 1, 2}).cuts(), 2);
  }

  private static void cutsAsManyAsCanBe() {
    CHECK.says("Promise 12, as many as can be");
    BestSplits numbers = new BestSplits();
    BestSplits kinds = new BestSplits();
    for (int c = 0; c < 4; c++) {
      kinds.column(c, 1);
    }
    for (int r = 0; r < 24; r++) {
      numbers.row(r, 100 - r, 4 * r, r + 50, r % 3);
      kinds.row(r % 7 - 1, (r + 1) % 7 - 1, (r + 2) % 7 - 1, (r + 3) % 7 - 1, r % 3);
    }
    due("24 numbers in each COLUMN", numbers.cuts(), 4 * 23);
    due("6 kinds and UNKNOWN in each COLUMN", kinds.cuts(), 4 * 31 * 2);
    BestSplits both = new BestSplits();
    for (int r = 0; r < 24; r++) {
      both.row(r - 1, r - 1, r - 1, r - 1, 0);
    }
    due("23 numbers and UNKNOWN in each COLUMN", both.cuts(), 4 * 22 * 2);
  }

  private static void cutsAtLeast() {
    CHECK.says("Promise 12, MAY be, if LEAST ROWS and more go to each side");
    BestSplits x = new BestSplits();
    for (int r = 0; r < 24; r++) {
      x.row(r, 0, 0, 0, 0);
    }
    for (int least = 1; least <= 10; least++) {
      x.settings(3, least, 0);
      due("24 numbers at LEAST " + least, x.cuts(), 25 - 2 * least);
    }
    BestSplits few = new BestSplits();
    for (int r = 0; r < 19; r++) {
      few.row(r, 0, 0, 0, 0);
    }
    few.settings(3, 10, 0);
    due("19 numbers at LEAST 10", few.cuts(), 0);
    few.row(-1, 0, 0, 0, 0);
    // 10 known at the right: UNKNOWN goes left to 9; 10 known at the left: right to 9
    due("and one UNKNOWN", few.cuts(), 2);
  }

  private static void cutsWhateverTheTree() {
    CHECK.says("Promise 12, DEPTH, WORTH and CLASSES do not matter");
    BestSplits x = Given.byColumn0(new int[] {1, 2, 3}, new int[] {2, 2, 2});
    x.settings(0, 1, 1000);
    due("cuts()", x.cuts(), 2);
    due("NODES", x.nodes(), 1);
  }

  private static void cutGainNoSuchColumn() {
    CHECK.says("Promise 13, -1 no such COLUMN");
    BestSplits x = Given.twoBlocks(2, 2);
    for (int c : Given.outside(0, 3)) {
      due("cutGain(" + c + ", 0, 0, 0)", x.cutGain(c, 0, 0, 0), -1);
    }
    due("COLUMN 0", x.cutGain(0, 0, 0, 0), 2);
    BestSplits last = new BestSplits();
    last.row(0, 0, 0, 7, 0);
    last.row(0, 0, 0, 8, 1);
    due("COLUMN 3", last.cutGain(3, 7, 0, 0), 1);
  }

  private static void cutGainSideOutside() {
    CHECK.says("Promise 13, -2 side");
    BestSplits x = Given.byColumn0(new int[] {1, 3, -1}, new int[] {0, 1, 1});
    for (int side : Given.outside(0, 1)) {
      due("cutGain(0, 1, " + side + ", 0)", x.cutGain(0, 1, side, 0), -2);
    }
  }

  private static void cutGainPartOutside() {
    CHECK.says("Promise 13, -2 part");
    BestSplits x = Given.byColumn0(new int[] {1, 3, -1}, new int[] {0, 1, 1});
    for (int part : Given.outside(0, 1)) {
      due("cutGain(0, 1, 0, " + part + ")", x.cutGain(0, 1, 0, part), -2);
      due("cutGain(0, 1, 1, " + part + ")", x.cutGain(0, 1, 1, part), -2);
    }
  }

  private static void cutGainRefusalsInOrder() {
    CHECK.says("Promise 13, the first that fits");
    BestSplits x = Given.twoBlocks(2, 2);
    due("COLUMN, side, part", x.cutGain(4, 0, 2, 2), -1);
    due("COLUMN, number", x.cutGain(-1, 500, 0, 0), -1);
    due("side, no such CUT", x.cutGain(0, 500, 2, 0), -2);
    due("part, no such CUT", x.cutGain(0, 500, 0, -1), -2);
    due("side without ROWS", Given.noRows().cutGain(0, 0, -1, 0), -2);
    due("no such CUT", x.cutGain(0, 500, 0, 0), -3);
  }

  private static void cutGainWithoutRows() {
    CHECK.says("Promise 13, -3 without ROWS");
    for (int number : new int[] {Given.LOW, -1, 0, 1, 63, 100, 101, Given.HIGH}) {
      dueNone(Given.noRows(), number, 0);
      dueNone(Given.noRows(), number, 1);
      dueNone(Given.byKinds(new int[0], new int[0]), number, 0);
    }
  }

  private static void numberIsAKnownValue() {
    CHECK.says("Promise 13, one of their known values t");
    BestSplits x = Given.byColumn0(new int[] {0, 50, 100, -1}, new int[] {0, 1, 2, 0});
    for (int number = -1; number <= 101; number++) {
      for (int side = 0; side < 2; side++) {
        boolean isCut = number == 0 || number == 50;
        due("number " + number, x.cutGain(0, number, side, 1) > 0 ? 1 : 0, isCut ? 1 : 0);
      }
    }
    for (int number : Given.outside(0, 100)) {
      dueNone(x, number, 0);
      dueNone(x, number, 1);
    }
  }

  private static void numberIsNotTheGreatest() {
    CHECK.says("Promise 13, but the greatest");
    BestSplits x = Given.byColumn0(new int[] {99, 100}, new int[] {0, 1});
    dueGain(x, 99, 0, 1, 1);
    dueNone(x, 100, 0);
    // UNKNOWN alone would go right of 100, but 100 is the greatest known one
    BestSplits unknown = Given.byColumn0(new int[] {99, 100, -1}, new int[] {0, 1, 2});
    dueNone(unknown, 100, 1);
    dueNone(unknown, -1, 0);
    dueNone(Given.byColumn0(new int[] {0, -1}, new int[] {0, 1}), 0, 1);
  }

  private static void setHasTheLeastKind() {
    CHECK.says("Promise 13, a set of kinds with the least of these");
    BestSplits x = Given.byKinds(new int[] {1, 3, 5}, new int[] {0, 1, 2});
    int[] sets = {2, 10, 34};
    for (int set : sets) {
      dueGain(x, set, 0, 1, 1);
    }
    for (int set : new int[] {8, 32, 40}) {
      dueNone(x, set, 0);
    }
  }

  private static void setIsNotAll() {
    CHECK.says("Promise 13, not with all");
    dueNone(Given.byKinds(new int[] {1, 3, 5}, new int[] {0, 1, 2}), 42, 0);
    dueNone(Given.byKinds(new int[] {1, 3, 5, -1}, new int[] {0, 1, 2, 0}), 42, 1);
    dueNone(Given.byKinds(new int[] {0, 0}, new int[] {0, 1}), 1, 0);
    dueNone(Given.byKinds(new int[] {0, -1}, new int[] {0, 1}), 1, 1);
    dueNone(Given.byKinds(new int[] {-1, -1}, new int[] {0, 1}), 0, 0);
  }

  private static void setIsOfKindsThatTheyHave() {
    CHECK.says("Promise 13, (bits) that they have");
    BestSplits x = Given.byKinds(new int[] {0, 5}, new int[] {0, 1});
    dueGain(x, 1, 0, 1, 1);
    for (int set = -70; set <= 140; set++) {
      if (set != 1) {
        dueNone(x, set, 0);
      }
    }
    for (int set : new int[] {Given.LOW, Given.LOW | 1, Given.HIGH, 1 << 30 | 1, 256 + 1, 65536 + 1, -255, -65535}) {
      dueNone(x, set, 0);
    }
  }

  private static void setOfAllSixKinds() {
    CHECK.says("Promise 13, sets of six kinds");
    BestSplits x = Given.byKinds(new int[] {0, 1, 2, 3, 4, 5}, new int[] {0, 0, 0, 0, 0, 0});
    for (int set = -1; set <= 101; set++) {
      boolean isCut = set > 0 && set < 63 && set % 2 == 1;
      due("set " + set, x.cutGain(0, set, 0, 0), isCut ? 0 : -3);
    }
  }

  private static void sideOneWithoutUnknownOnes() {
    CHECK.says("Promise 13, if there are none 0 alone");
    dueNone(Given.byColumn0(new int[] {1, 3}, new int[] {0, 1}), 1, 1);
    dueNone(Given.byKinds(new int[] {1, 3}, new int[] {0, 1}), 2, 1);
    BestSplits x = new BestSplits();
    x.row(1, 1, 0, 0, 0);
    x.row(3, 3, 0, 0, 1);
    x.row(3, -1, 0, 0, 1);
    due("UNKNOWN in another COLUMN", x.cutGain(0, 1, 1, 0), -3);
    due("UNKNOWN in this COLUMN", x.cutGain(1, 1, 1, 0), 4);
  }

  private static void mayBeAtLeast() {
    CHECK.says("Promise 13, -3 there is no such CUT that MAY be");
    BestSplits x = Given.byColumn0(new int[] {1, 3, 3, -1}, new int[] {0, 1, 1, 1});
    dueGain(x, 1, 0, 1, 2);
    dueGain(x, 1, 1, 3, 2);
    x.settings(3, 2, 0);
    dueGain(x, 1, 0, 1, 2);
    dueNone(x, 1, 1);
    x.settings(3, 3, 0);
    dueNone(x, 1, 0);
    BestSplits ten = Given.twoBlocks(10, 14);
    ten.settings(3, 10, 0);
    due("10 and 14 at LEAST 10", ten.cutGain(0, 0, 0, 1) > 0 ? 1 : 0, 1);
    BestSplits nine = Given.twoBlocks(9, 15);
    nine.settings(3, 10, 0);
    dueNone(nine, 0, 0);
    nine.settings(3, 9, 0);
    due("9 and 15 at LEAST 9", nine.cutGain(0, 0, 0, 1) > 0 ? 1 : 0, 1);
  }

  private static void nothingAsZeroByOne() {
    CHECK.says("Promise 13, 0 as 0 / 1");
    dueGain(Given.byColumn0(new int[] {0, 1}, new int[] {2, 2}), 0, 0, 0, 1);
    dueGain(Given.byColumn0(new int[] {0, 0, 1, 1}, new int[] {0, 1, 1, 0}), 0, 0, 0, 1);
    dueGain(Given.byKinds(new int[] {0, 1, 1, 0}, new int[] {0, 2, 0, 2}), 1, 0, 0, 1);
    BestSplits full = Given.byColumn0(new int[24], new int[24]);
    full.clear();
    for (int r = 0; r < 24; r++) {
      full.row(r, 0, 0, 0, 1);
    }
    dueGain(full, 11, 0, 0, 1);
  }

  private static void lowestTerms() {
    CHECK.says("Promise 13, in lowest terms");
    dueGain(Given.twoBlocks(12, 12), 0, 0, 12, 1);
    dueGain(Given.twoBlocks(1, 1), 0, 0, 1, 1);
    dueGain(Given.twoBlocks(1, 23), 0, 0, 23, 12);
    dueGain(Given.twoBlocks(10, 11), 0, 0, 220, 21);
  }

  private static void sortTellsTheNumber() {
    CHECK.says("Promise 13, of SORT 0 a value, of SORT 1 a set");
    dueGain(Given.byColumn0(new int[] {2, 3}, new int[] {0, 1}), 2, 0, 1, 1);
    dueNone(Given.byColumn0(new int[] {2, 3}, new int[] {0, 1}), 4, 0);
    dueGain(Given.byKinds(new int[] {2, 3}, new int[] {0, 1}), 4, 0, 1, 1);
    dueNone(Given.byKinds(new int[] {2, 3}, new int[] {0, 1}), 2, 0);
  }
}
