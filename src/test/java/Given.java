import java.util.stream.IntStream;

/** Objects with rows that lie at some boundary, and arguments that lie beyond one. */
final class Given {
  static final int LOW = Integer.MIN_VALUE;
  static final int HIGH = Integer.MAX_VALUE;

  /** The classes of the 24 rows of a 2 x 2 x 2 x 3 grid whose tree at DEPTH 5 has a LEAF for each ROW. */
  private static final int[] FULL_TREE = {0, 2, 1, 1, 2, 0, 2, 0, 2, 0, 0, 0, 1, 2, 1, 1, 1, 2, 1, 1, 0, 0, 2, 0};

  private Given() {}

  /** Just outside from .. to, far outside, and what would fall inside if bits were lost. */
  static int[] outside(int from, int to) {
    int[] tried = {from - 1, to + 1, from - 2, to + 2, LOW, HIGH, LOW + 1, HIGH - 1, LOW + from, LOW + to,
        from + 32, to + 32, from + 64, from + 256, to - 256, from + 65536, to - 65536};
    return IntStream.of(tried).filter(v -> v < from || v > to).distinct().toArray();
  }

  static BestSplits noRows() {
    return new BestSplits();
  }

  /** Rows that column 0 alone tells apart. */
  static BestSplits byColumn0(int[] values, int[] classes) {
    BestSplits x = new BestSplits();
    for (int r = 0; r < values.length; r++) {
      x.row(values[r], 0, 0, 0, classes[r]);
    }
    return x;
  }

  /** Rows of class 0 with value 0, then rows of class 1 with value 1, in column 0. */
  static BestSplits twoBlocks(int ofClass0, int ofClass1) {
    BestSplits x = new BestSplits();
    for (int r = 0; r < ofClass0 + ofClass1; r++) {
      int cls = r < ofClass0 ? 0 : 1;
      x.row(cls, 0, 0, 0, cls);
    }
    return x;
  }

  /** Rows that column 0, of kinds, alone tells apart. */
  static BestSplits byKinds(int[] kinds, int[] classes) {
    BestSplits x = new BestSplits();
    x.column(0, 1);
    for (int r = 0; r < kinds.length; r++) {
      x.row(kinds[r], 0, 0, 0, classes[r]);
    }
    return x;
  }

  /** Classes 0 1 0 1 .. by column 0: a tree as deep as the settings let it be. */
  static BestSplits alternating(int rows) {
    BestSplits x = new BestSplits();
    for (int r = 0; r < rows; r++) {
      x.row(r, 0, 0, 0, r % 2);
    }
    return x;
  }

  static int classInFullTree(int r) {
    return FULL_TREE[r];
  }

  /** 24 ROWS, 24 LEAVES, 47 NODES: as many of each as there can be. */
  static BestSplits fullTree() {
    BestSplits x = new BestSplits();
    x.settings(5, 1, 0);
    for (int r = 0; r < FULL_TREE.length; r++) {
      x.row(r & 1, r >> 1 & 1, r >> 2 & 1, r >> 3, FULL_TREE[r]);
    }
    return x;
  }

  /** Column 0 parts four from four; column 1 then parts each four: 7 NODES, 3 STAGES. */
  static BestSplits twoLevels() {
    BestSplits x = new BestSplits();
    for (int r = 0; r < 8; r++) {
      boolean isOdd = r % 4 == 3;
      x.row(r / 4, isOdd ? 9 : 0, 0, 0, isOdd ? 2 : r / 4);
    }
    return x;
  }
}
