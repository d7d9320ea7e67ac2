/** The boundary cases of promises 14 to 19 and of the terms that they use, a test for each. */
public final class BoundsOfStagesTests {
  private static final Check CHECK = new Check();

  public static void main(String[] args) {
    stagesOfOneLeaf();
    stagesEndWithNodeZero();
    stagesOfFullTree();
    stagesAfterAChange();
    alphaOfStageZero();
    alphaNoSuch();
    alphaPartOutside();
    alphaNothing();
    alphaLowestTerms();
    alphaOfTwoNodes();
    alphaOfOneBelowTheOther();
    leavesNoSuch();
    wrongNoSuch();
    stateNoSuch();
    stateOfLeafThatGoesOn();
    leftOutOfNoRows();
    leftOutOfOneRow();
    leftOutOfTwoRows();
    leftOutOfFullTable();
    leftOutAtLeast();
    leftOutAtDepthZero();
    leftOutOfKindThatNoOtherHas();
    leftOutChangesNothing();
    CHECK.end("BoundsOfStagesTests");
  }

  private static void due(String call, int got, int want) {
    CHECK.due(call, got, want);
  }

  private static void dueStage(BestSplits x, int stage, int above, int below, int leaves, int wrong) {
    due("alpha(" + stage + ", 0)", x.alpha(stage, 0), above);
    due("alpha(" + stage + ", 1)", x.alpha(stage, 1), below);
    due("leaves(" + stage + ")", x.leaves(stage), leaves);
    due("wrong(" + stage + ")", x.wrong(stage), wrong);
  }

  private static void dueStates(BestSplits x, int stage, int... states) {
    for (int n = 0; n < states.length; n++) {
      due("state(" + stage + ", " + n + ")", x.state(stage, n), states[n]);
    }
  }

  private static void stagesOfOneLeaf() {
    CHECK.says("Promise 14, NODE 0 is a LEAF");
    due("no ROWS", Given.noRows().stages(), 1);
    dueStage(Given.noRows(), 0, 0, 1, 1, 0);
    dueStates(Given.noRows(), 0, 1);
    BestSplits x = Given.twoBlocks(3, 4);
    x.settings(0, 1, 0);
    due("DEPTH 0", x.stages(), 1);
    dueStage(x, 0, 0, 1, 1, 3);
    due("one CLASS", Given.twoBlocks(0, 24).stages(), 1);
    dueStage(Given.twoBlocks(0, 24), 0, 0, 1, 1, 0);
  }

  private static void stagesEndWithNodeZero() {
    CHECK.says("Promise 14, from a STAGE in which NODE 0 is no LEAF");
    BestSplits x = Given.twoLevels();
    int last = x.stages() - 1;
    due("the last STAGE", last, 2);
    dueStates(x, last - 1, 0, 1, 1, 2, 2, 2, 2);
    dueStates(x, last, 1, 2, 2, 2, 2, 2, 2);
    dueStage(x, last, 3, 1, 1, x.node(0, 8));
    due("none after it", x.leaves(last + 1), -1);
  }

  private static void stagesOfFullTree() {
    CHECK.says("Promises 14 to 18, as many NODES as there can be");
    BestSplits x = Given.fullTree();
    int stages = x.stages();
    due("leaves(0)", x.leaves(0), 24);
    due("wrong(0)", x.wrong(0), 0);
    due("leaves at the end", x.leaves(stages - 1), 1);
    due("wrong at the end", x.wrong(stages - 1), x.node(0, 8));
    for (int stage = 0; stage < stages; stage++) {
      int leaves = 0;
      int parted = 0;
      for (int n = 0; n < 47; n++) {
        int state = x.state(stage, n);
        leaves += state == 1 ? 1 : 0;
        parted += state == 0 ? 1 : 0;
      }
      due("LEAVES of STAGE " + stage, x.leaves(stage), leaves);
      due("parted ones are one less", parted, leaves - 1);
    }
    due("no NODE 47", x.state(0, 47), -1);
    due("no such STAGE", x.state(stages, 46), -1);
  }

  private static void stagesAfterAChange() {
    CHECK.says("Promise 14, of THE TREE as it is");
    BestSplits x = Given.twoLevels();
    due("before", x.stages(), 3);
    x.settings(1, 1, 0);
    due("at DEPTH 1", x.stages(), 2);
    dueStage(x, 1, 3, 1, 1, 5);
    dueStates(x, 1, 1, 2, 2, -1);
    due("no STAGE 2 any more", x.alpha(2, 0), -1);
    x.clear();
    due("without ROWS", x.stages(), 1);
    dueStates(x, 0, 1, -1);
    due("no STAGE 1 any more", x.state(1, 0), -1);
  }

  private static void alphaOfStageZero() {
    CHECK.says("Promise 15, of STAGE 0: 0 / 1");
    for (BestSplits x : new BestSplits[] {Given.noRows(), Given.twoBlocks(1, 1), Given.twoLevels(), Given.fullTree()}) {
      due("alpha(0, 0)", x.alpha(0, 0), 0);
      due("alpha(0, 1)", x.alpha(0, 1), 1);
    }
  }

  private static void alphaNoSuch() {
    CHECK.says("Promise 15, -1");
    BestSplits x = Given.twoLevels();
    for (int stage : Given.outside(0, 2)) {
      due("alpha(" + stage + ", 0)", x.alpha(stage, 0), -1);
      due("alpha(" + stage + ", 2), -1 first", x.alpha(stage, 2), -1);
    }
    due("without ROWS", Given.noRows().alpha(1, 1), -1);
  }

  private static void alphaPartOutside() {
    CHECK.says("Promise 15, -2");
    BestSplits x = Given.twoLevels();
    for (int part : Given.outside(0, 1)) {
      due("alpha(0, " + part + ")", x.alpha(0, part), -2);
      due("alpha(2, " + part + ")", x.alpha(2, part), -2);
      due("alpha(0, " + part + ") without ROWS", Given.noRows().alpha(0, part), -2);
    }
  }

  /** A CUT that leaves as many WRONG as there were. */
  private static void alphaNothing() {
    CHECK.says("Promise 15, an ALPHA of 0");
    BestSplits x = Given.byColumn0(new int[] {0, 0, 1, 1, 1}, new int[] {0, 0, 0, 0, 1});
    due("nodes()", x.nodes(), 3);
    due("stages()", x.stages(), 2);
    dueStage(x, 1, 0, 1, 1, 1);
  }

  private static void alphaLowestTerms() {
    CHECK.says("Promise 15, in lowest terms");
    dueStage(Given.twoBlocks(12, 12), 1, 12, 1, 1, 12);
    // NODE 0 has (16 - 0) by 2, NODE 2 (8 - 0) by 1
    int[] blocks = new int[24];
    for (int r = 0; r < 24; r++) {
      blocks[r] = r / 8;
    }
    dueStage(Given.byColumn0(blocks, blocks), 1, 8, 1, 1, 16);
    // 0 1 0 1 0, one parted from the left at each NODE: NODE 0 has (2 - 0) by 4
    BestSplits half = Given.alternating(5);
    half.settings(5, 1, 0);
    due("nodes()", half.nodes(), 9);
    dueStage(half, 1, 1, 2, 1, 2);
  }

  private static void alphaOfTwoNodes() {
    CHECK.says("Promises 15 and 18, all NODES that have it become LEAVES");
    BestSplits x = Given.twoLevels();
    due("NODE 1 has 1", x.node(1, 8), 1);
    due("NODE 2 has 1", x.node(2, 8), 1);
    dueStage(x, 1, 1, 1, 2, 2);
    dueStates(x, 1, 0, 1, 1, 2, 2, 2, 2);
  }

  private static void alphaOfOneBelowTheOther() {
    CHECK.says("Promise 18, what is below is GONE");
    // NODE 0 has (2 - 0) by 2, NODE 2 below it (1 - 0) by 1: the same
    BestSplits x = Given.byColumn0(new int[] {0, 1, 2}, new int[] {0, 1, 2});
    due("stages()", x.stages(), 2);
    dueStage(x, 1, 1, 1, 1, 2);
    dueStates(x, 0, 0, 1, 0, 1, 1);
    dueStates(x, 1, 1, 2, 2, 2, 2);
  }

  private static void leavesNoSuch() {
    CHECK.says("Promise 16, -1");
    BestSplits x = Given.twoLevels();
    for (int stage : Given.outside(0, 2)) {
      due("leaves(" + stage + ")", x.leaves(stage), -1);
    }
    for (int stage : Given.outside(0, 0)) {
      due("leaves(" + stage + ") without ROWS", Given.noRows().leaves(stage), -1);
    }
  }

  private static void wrongNoSuch() {
    CHECK.says("Promise 17, -1");
    BestSplits x = Given.twoLevels();
    for (int stage : Given.outside(0, 2)) {
      due("wrong(" + stage + ")", x.wrong(stage), -1);
    }
    for (int stage : Given.outside(0, 0)) {
      due("wrong(" + stage + ") without ROWS", Given.noRows().wrong(stage), -1);
    }
  }

  private static void stateNoSuch() {
    CHECK.says("Promise 18, -1");
    BestSplits x = Given.twoLevels();
    for (int stage : Given.outside(0, 2)) {
      due("state(" + stage + ", 0)", x.state(stage, 0), -1);
      due("state(" + stage + ", 7)", x.state(stage, 7), -1);
    }
    for (int n : Given.outside(0, 6)) {
      due("state(0, " + n + ")", x.state(0, n), -1);
      due("state(2, " + n + ")", x.state(2, n), -1);
    }
    due("without ROWS", Given.noRows().state(0, 1), -1);
    due("without ROWS", Given.noRows().state(1, 0), -1);
  }

  /** NODE 1 is a LEAF from the start and stays one until NODE 0 becomes one. */
  private static void stateOfLeafThatGoesOn() {
    CHECK.says("Promise 18, a LEAF in several STAGES");
    int[] values = {0, 0, 0, 0, 5, 5, 5, 6};
    BestSplits x = Given.byColumn0(values, new int[] {0, 0, 0, 0, 1, 1, 1, 2});
    due("nodes()", x.nodes(), 5);
    due("stages()", x.stages(), 3);
    dueStates(x, 0, 0, 1, 0, 1, 1);
    dueStates(x, 1, 0, 1, 1, 2, 2);
    dueStates(x, 2, 1, 2, 2, 2, 2);
    dueStage(x, 1, 1, 1, 2, 1);
    dueStage(x, 2, 3, 1, 1, 4);
  }

  private static void leftOutOfNoRows() {
    CHECK.says("Promise 19, no ROWS");
    due("leftOut()", Given.noRows().leftOut(), 0);
  }

  private static void leftOutOfOneRow() {
    CHECK.says("Promise 19, no others: LABEL 0 without ROWS");
    for (int cls = 0; cls < 3; cls++) {
      due("CLASS " + cls, Given.byColumn0(new int[] {9}, new int[] {cls}).leftOut(), cls == 0 ? 0 : 1);
    }
  }

  private static void leftOutOfTwoRows() {
    CHECK.says("Promise 19, one other");
    due("the same CLASS", Given.byColumn0(new int[] {1, 9}, new int[] {2, 2}).leftOut(), 0);
    due("another CLASS", Given.byColumn0(new int[] {1, 9}, new int[] {2, 0}).leftOut(), 2);
  }

  private static void leftOutOfFullTable() {
    CHECK.says("Promise 19, 24 ROWS");
    due("one CLASS", Given.twoBlocks(0, 24).leftOut(), 0);
    due("two blocks", Given.twoBlocks(12, 12).leftOut(), 0);
    due("one alone", Given.twoBlocks(23, 1).leftOut(), 1);
    BestSplits same = new BestSplits();
    for (int r = 0; r < 24; r++) {
      same.row(0, 0, 0, 0, r % 2);
    }
    // of the others there are 12 of the other CLASS
    due("no CUT at all", same.leftOut(), 24);
  }

  /** Without one ROW a side has 9. */
  private static void leftOutAtLeast() {
    CHECK.says("Promise 19, THE TREE of all others at LEAST");
    BestSplits x = Given.twoBlocks(10, 10);
    x.settings(3, 10, 0);
    due("THE TREE of all has a CUT", x.nodes(), 3);
    due("LEAST 10", x.leftOut(), 20);
    x.settings(3, 9, 0);
    due("LEAST 9", x.leftOut(), 0);
  }

  private static void leftOutAtDepthZero() {
    CHECK.says("Promise 19, THE TREE of all others at DEPTH 0");
    BestSplits x = Given.twoBlocks(2, 3);
    x.settings(0, 1, 0);
    // without one of CLASS 1 there are two of each: LABEL 0
    due("DEPTH 0", x.leftOut(), 5);
    x.settings(1, 1, 0);
    due("DEPTH 1", x.leftOut(), 0);
  }

  private static void leftOutOfKindThatNoOtherHas() {
    CHECK.says("Promise 19, a kind or UNKNOWN that no other has");
    // kind 5 is not in set 1: it goes right, to CLASS 1
    due("of CLASS 0", Given.byKinds(new int[] {0, 0, 1, 1, 5}, new int[] {0, 0, 1, 1, 0}).leftOut(), 1);
    due("of CLASS 1", Given.byKinds(new int[] {0, 0, 1, 1, 5}, new int[] {0, 0, 1, 1, 1}).leftOut(), 0);
    // the others have no UNKNOWN one: side 0, left, to CLASS 0
    due("UNKNOWN of CLASS 0", Given.byColumn0(new int[] {0, 0, 1, 1, -1}, new int[] {0, 0, 1, 1, 0}).leftOut(), 0);
    due("UNKNOWN of CLASS 1", Given.byColumn0(new int[] {0, 0, 1, 1, -1}, new int[] {0, 0, 1, 1, 1}).leftOut(), 1);
  }

  private static void leftOutChangesNothing() {
    CHECK.says("Promise 19, the tree of all ROWS stays");
    BestSplits x = Given.twoLevels();
    due("before", x.nodes(), 7);
    int first = x.leftOut();
    due("again", x.leftOut(), first);
    due("nodes()", x.nodes(), 7);
    due("ROWS", x.node(0, 6), 8);
    due("leafOf(7)", x.leafOf(7), 6);
    dueStage(x, 1, 1, 1, 2, 2);
  }
}
