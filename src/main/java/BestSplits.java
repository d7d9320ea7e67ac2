/**
 * Trees that part ROWS by their COLUMNS. Words in capitals are the terms of the document.
 *
 * <p>Every array and object is made with the BestSplits itself and used again, so that no call makes
 * anything.
 */
public final class BestSplits {
  private static final int NO_SUCH = -1;
  private static final int OUT_OF_BOUNDS = -2;
  private static final int NOT_IN_THIS_STATE = -3;
  private static final int NO_ROOM = -4;

  private static final int COLUMNS = 4;
  private static final int CLASSES = 3;
  private static final int MOST_ROWS = 24;
  private static final int UNKNOWN = -1;

  private static final int NUMBERS = 0;
  private static final int KINDS = 1;
  private static final int GREATEST_NUMBER = 100;
  private static final int GREATEST_KIND = 5;
  private static final int ALL_KINDS = 63;

  private static final int MOST_DEPTH = 5;
  private static final int MOST_LEAST = 10;
  private static final int MOST_WORTH = 1000;

  private static final int LEFT = 0;
  private static final int RIGHT = 1;

  private static final int LAST_CUT_DETAIL = 4;
  private static final int LAST_DETAIL = 8;

  /** Each LEAF has a ROW of its own at least, so there are no more than 24, under 23 parted NODES. */
  private static final int MOST_NODES = 2 * MOST_ROWS - 1;

  /** Each STAGE after the first has one parted NODE less than the one before, or fewer still. */
  private static final int MOST_STAGES = MOST_ROWS;

  private static final int PARTED = 0;
  private static final int A_LEAF = 1;
  private static final int GONE = 2;
  private static final int NEVER = MOST_STAGES;

  private static final int NOT_COUNTED = -1;

  /** Far above the steps that Euclid's way needs for any two ints. */
  private static final int MOST_EUCLID_STEPS = 64;

  private final Table table;
  private final Limits limits;
  private final Survey survey;
  private final Tree tree;
  private final Tree treeOfOthers;
  private final Pruning pruning;
  private final int[] asked;
  private boolean changed;
  private int leftOutCount;

  public BestSplits() {
    table = new Table();
    limits = new Limits();
    survey = new Survey(table, limits);
    tree = new Tree(table, limits, survey);
    treeOfOthers = new Tree(table, limits, survey);
    pruning = new Pruning(tree);
    asked = new int[COLUMNS];
    changed = true;
    leftOutCount = NOT_COUNTED;
  }

  public int column(int c, int sort) {
    if (!isColumn(c)) {
      return NO_SUCH;
    }
    if (sort != NUMBERS && sort != KINDS) {
      return OUT_OF_BOUNDS;
    }
    if (table.size > 0) {
      return NOT_IN_THIS_STATE;
    }
    noteChange();
    return table.changeSort(c, sort);
  }

  public int row(int a, int b, int c, int d, int cls) {
    ask(a, b, c, d);
    if (!table.takes(asked) || !isClass(cls)) {
      return OUT_OF_BOUNDS;
    }
    if (table.size >= MOST_ROWS) {
      return NO_ROOM;
    }
    noteChange();
    return table.add(asked, cls);
  }

  public int clear() {
    noteChange();
    return table.removeAll();
  }

  public int settings(int depth, int least, int worth) {
    if (depth < 0 || depth > MOST_DEPTH || least < 1 || least > MOST_LEAST) {
      return OUT_OF_BOUNDS;
    }
    if (worth < 0 || worth > MOST_WORTH) {
      return OUT_OF_BOUNDS;
    }
    limits.depth = depth;
    limits.least = least;
    limits.worth = worth;
    noteChange();
    return 1;
  }

  public int nodes() {
    growIfChanged();
    return tree.size;
  }

  public int node(int n, int what) {
    growIfChanged();
    Node found = tree.find(n);
    if (found == null) {
      return NO_SUCH;
    }
    if (what < 0 || what > LAST_DETAIL) {
      return OUT_OF_BOUNDS;
    }
    return what <= LAST_CUT_DETAIL ? found.cutDetail(what) : found.ownDetail(what);
  }

  public int count(int n, int cls) {
    growIfChanged();
    Node found = tree.find(n);
    if (found == null || !isClass(cls)) {
      return NO_SUCH;
    }
    return table.countOf(found.rows, cls);
  }

  public int gain(int n, int part) {
    growIfChanged();
    Node found = tree.find(n);
    if (found == null) {
      return NO_SUCH;
    }
    if (!isPart(part)) {
      return OUT_OF_BOUNDS;
    }
    if (found.isUnparted()) {
      return NOT_IN_THIS_STATE;
    }
    return found.cut.gain.inLowestTerms(part);
  }

  public int leaf(int a, int b, int c, int d) {
    ask(a, b, c, d);
    if (!table.takes(asked)) {
      return OUT_OF_BOUNDS;
    }
    growIfChanged();
    return tree.whereComes(asked).number;
  }

  public int leafOf(int row) {
    if (!table.has(row)) {
      return NO_SUCH;
    }
    growIfChanged();
    return tree.whereComes(table.values[row]).number;
  }

  public int cuts() {
    return survey.look(table.allRows());
  }

  public int cutGain(int c, int number, int side, int part) {
    if (!isColumn(c)) {
      return NO_SUCH;
    }
    if ((side != LEFT && side != RIGHT) || !isPart(part)) {
      return OUT_OF_BOUNDS;
    }
    int all = table.allRows();
    if (!table.canCut(all, c, number) || !survey.measure(all, c, number, side)) {
      return NOT_IN_THIS_STATE;
    }
    return survey.tried.gain.inLowestTerms(part);
  }

  public int stages() {
    growIfChanged();
    return pruning.size;
  }

  public int alpha(int stage, int part) {
    growIfChanged();
    if (!pruning.has(stage)) {
      return NO_SUCH;
    }
    if (!isPart(part)) {
      return OUT_OF_BOUNDS;
    }
    return pruning.alphas[stage].inLowestTerms(part);
  }

  public int leaves(int stage) {
    growIfChanged();
    return pruning.has(stage) ? pruning.leafCounts[stage] : NO_SUCH;
  }

  public int wrong(int stage) {
    growIfChanged();
    return pruning.has(stage) ? pruning.wrongSums[stage] : NO_SUCH;
  }

  public int state(int stage, int n) {
    growIfChanged();
    Node found = tree.find(n);
    if (found == null || !pruning.has(stage)) {
      return NO_SUCH;
    }
    return found.stateAt(stage);
  }

  public int leftOut() {
    if (leftOutCount == NOT_COUNTED) {
      leftOutCount = 0;
      for (int r = 0; r < table.size; r++) {
        leftOutCount += isMistakenByOthers(r) ? 1 : 0;
      }
    }
    return leftOutCount;
  }

  private boolean isMistakenByOthers(int r) {
    if (!table.has(r)) {
      return false;
    }
    treeOfOthers.grow(table.allRows() & ~(1 << r));
    return treeOfOthers.whereComes(table.values[r]).label != table.classes[r];
  }

  private void noteChange() {
    changed = true;
    leftOutCount = NOT_COUNTED;
  }

  private void growIfChanged() {
    if (changed) {
      tree.grow(table.allRows());
      pruning.cutBackToRoot();
      changed = false;
    }
  }

  private void ask(int a, int b, int c, int d) {
    asked[0] = a;
    asked[1] = b;
    asked[2] = c;
    asked[3] = d;
  }

  private static boolean isColumn(int c) {
    return c >= 0 && c < COLUMNS;
  }

  private static boolean isClass(int cls) {
    return cls >= 0 && cls < CLASSES;
  }

  private static boolean isPart(int part) {
    return part == 0 || part == 1;
  }

  /** The SETTINGS. */
  private static final class Limits {
    int depth = 3;
    int least = 1;
    int worth = 0;
  }

  /** A fraction that is not below 0; it is brought to lowest terms only when it is told. */
  private static final class Fraction {
    private int above = 0;
    private int below = 1;

    void become(int newAbove, int newBelow) {
      above = newAbove;
      below = newBelow;
    }

    void becomeAs(Fraction other) {
      above = other.above;
      below = other.below;
    }

    int compareWith(Fraction other) {
      return Long.compare((long) above * other.below, (long) other.above * below);
    }

    boolean isAboveHundredths(int hundredths) {
      return 100L * above > (long) hundredths * below;
    }

    int inLowestTerms(int part) {
      int divisor = greatestCommonDivisor();
      int term = part == 0 ? above : below;
      return divisor == 0 ? term : term / divisor;
    }

    private int greatestCommonDivisor() {
      int greater = above;
      int lesser = below;
      for (int i = 0; i < MOST_EUCLID_STEPS && lesser != 0; i++) {
        int rest = greater % lesser;
        greater = lesser;
        lesser = rest;
      }
      return greater;
    }
  }

  /** A CUT with its GAIN. */
  private static final class Cut {
    final Fraction gain = new Fraction();
    int column;
    int number;
    int side;

    void become(int newColumn, int newNumber, int newSide) {
      column = newColumn;
      number = newNumber;
      side = newSide;
    }

    void becomeAs(Cut other) {
      become(other.column, other.number, other.side);
      gain.becomeAs(other.gain);
    }
  }

  /**
   * The COLUMNS and all ROWS. Some of the ROWS are told by one int, with bit r for ROW r: parting and
   * counting them is then a matter of masks.
   */
  private static final class Table {
    final int[][] values = new int[MOST_ROWS][COLUMNS];
    final int[] classes = new int[MOST_ROWS];
    int size = 0;
    private final int[] sorts = new int[COLUMNS];
    private final int[] rowsOfClass = new int[CLASSES];
    private final int[] rowsKnown = new int[COLUMNS];
    /** By COLUMN and by a CUT's number: the ROWS whose known value goes left. */
    private final int[][] rowsLeft = new int[COLUMNS][GREATEST_NUMBER + 1];

    int changeSort(int c, int sort) {
      if (!isColumn(c)) {
        return NO_SUCH;
      }
      int before = sorts[c];
      sorts[c] = sort;
      return before;
    }

    boolean takes(int[] row) {
      for (int c = 0; c < COLUMNS && c < row.length; c++) {
        int greatest = sorts[c] == KINDS ? GREATEST_KIND : GREATEST_NUMBER;
        if (row[c] < UNKNOWN || row[c] > greatest) {
          return false;
        }
      }
      return true;
    }

    boolean has(int r) {
      return r >= 0 && r < size && r < MOST_ROWS;
    }

    int allRows() {
      return (1 << size) - 1;
    }

    int add(int[] row, int cls) {
      if (size >= MOST_ROWS || !isClass(cls)) {
        return NO_ROOM;
      }
      int number = size;
      for (int c = 0; c < COLUMNS && c < row.length; c++) {
        values[number][c] = row[c];
        if (row[c] != UNKNOWN) {
          enterKnown(number, c, row[c]);
        }
      }
      classes[number] = cls;
      rowsOfClass[cls] |= 1 << number;
      size = number + 1;
      return number;
    }

    private void enterKnown(int r, int c, int value) {
      if (!isColumn(c)) {
        return;
      }
      int bit = 1 << r;
      rowsKnown[c] |= bit;
      for (int number = 0; number <= lastNumber(c); number++) {
        if (isLeftOf(c, number, value)) {
          rowsLeft[c][number] |= bit;
        }
      }
    }

    int removeAll() {
      int before = size;
      size = 0;
      for (int cls = 0; cls < CLASSES; cls++) {
        rowsOfClass[cls] = 0;
      }
      for (int c = 0; c < COLUMNS; c++) {
        rowsKnown[c] = 0;
        for (int number = 0; number <= GREATEST_NUMBER; number++) {
          rowsLeft[c][number] = 0;
        }
      }
      return before;
    }

    /** The greatest number that is worth looking at for a CUT by this COLUMN. */
    int lastNumber(int c) {
      return isColumn(c) && sorts[c] == KINDS ? ALL_KINDS : GREATEST_NUMBER;
    }

    private boolean isLeftOf(int c, int number, int value) {
      if (isColumn(c) && sorts[c] == KINDS) {
        return (number >> value & 1) == 1;
      }
      return value <= number;
    }

    boolean goesLeft(int[] row, Cut cut) {
      int c = cut.column;
      if (!isColumn(c) || c >= row.length || row[c] == UNKNOWN) {
        return cut.side == LEFT;
      }
      return isLeftOf(c, cut.number, row[c]);
    }

    boolean canCut(int rows, int c, int number) {
      if (!isColumn(c) || number < 0 || number > lastNumber(c)) {
        return false;
      }
      return sorts[c] == KINDS ? isGrouping(rows, c, number) : isStep(rows, c, number);
    }

    private boolean isStep(int rows, int c, int number) {
      if (!isColumn(c) || number < 0 || number > GREATEST_NUMBER) {
        return false;
      }
      int upTo = rows & rowsLeft[c][number];
      int before = number == 0 ? 0 : rows & rowsLeft[c][number - 1];
      return upTo != before && upTo != (rows & rowsKnown[c]);
    }

    private boolean isGrouping(int rows, int c, int set) {
      if (!isColumn(c)) {
        return false;
      }
      int had = 0;
      for (int kind = 0; kind <= GREATEST_KIND; kind++) {
        if ((rows & rowsLeft[c][1 << kind]) != 0) {
          had |= 1 << kind;
        }
      }
      int leastHad = had & -had;
      return (set & ~had) == 0 && (set & leastHad) != 0 && set != had;
    }

    int unknownOf(int rows, int c) {
      return isColumn(c) ? rows & ~rowsKnown[c] : 0;
    }

    int leftOf(int rows, int c, int number, int side) {
      if (!isColumn(c) || number < 0 || number > GREATEST_NUMBER) {
        return 0;
      }
      int left = rows & rowsLeft[c][number];
      return side == LEFT ? left | (rows & ~rowsKnown[c]) : left;
    }

    int countOf(int rows, int cls) {
      return isClass(cls) ? Integer.bitCount(rows & rowsOfClass[cls]) : 0;
    }

    /** What Q has above: the sum of the squares of how many are of each CLASS. */
    int squaresOf(int rows) {
      int sum = 0;
      for (int cls = 0; cls < CLASSES; cls++) {
        int ofIt = Integer.bitCount(rows & rowsOfClass[cls]);
        sum += ofIt * ofIt;
      }
      return sum;
    }

    int labelOf(int rows) {
      int label = 0;
      for (int cls = 1; cls < CLASSES; cls++) {
        if (countOf(rows, cls) > countOf(rows, label)) {
          label = cls;
        }
      }
      return label;
    }
  }

  /** Goes through the CUTS of some ROWS that MAY be. */
  private static final class Survey {
    /** The CUT that was measured last. */
    final Cut tried = new Cut();
    /** The BEST of the ROWS that were looked at last, if they had one. */
    final Cut best = new Cut();
    private final Table table;
    private final Limits limits;

    Survey(Table table, Limits limits) {
      this.table = table;
      this.limits = limits;
    }

    /** How many CUTS MAY be. They come in the order that settles equal GAINS, so the first stays. */
    int look(int rows) {
      int found = 0;
      for (int c = 0; c < COLUMNS; c++) {
        for (int number = 0; number <= GREATEST_NUMBER; number++) {
          if (!table.canCut(rows, c, number)) {
            continue;
          }
          for (int side = LEFT; side <= RIGHT; side++) {
            if (measure(rows, c, number, side)) {
              keepIfBetter(found == 0);
              found++;
            }
          }
        }
      }
      return found;
    }

    private void keepIfBetter(boolean isFirst) {
      if (isFirst || tried.gain.compareWith(best.gain) > 0) {
        best.becomeAs(tried);
      }
    }

    /** Whether a CUT by a COLUMN and a number that can cut MAY be with this side; its GAIN, if so. */
    boolean measure(int rows, int c, int number, int side) {
      if (side == RIGHT && table.unknownOf(rows, c) == 0) {
        return false;
      }
      int left = table.leftOf(rows, c, number, side);
      int right = rows & ~left;
      int atLeft = Integer.bitCount(left);
      int atRight = Integer.bitCount(right);
      if (atLeft < limits.least || atRight < limits.least) {
        return false;
      }
      int all = atLeft + atRight;
      int ofParts = table.squaresOf(left) * atRight + table.squaresOf(right) * atLeft;
      int ofAll = table.squaresOf(rows) * atLeft * atRight;
      tried.become(c, number, side);
      tried.gain.become(ofParts * all - ofAll, atLeft * atRight * all);
      return true;
    }
  }

  /** A NODE, and what becomes of it in the STAGES. */
  private static final class Node {
    final int number;
    final Cut cut = new Cut();
    int rows;
    int depth;
    int label;
    int wrongRows;
    Node left;
    Node right;
    int leafFrom;
    int goneFrom;
    int leavesBelow;
    int wrongBelow;

    Node(int number) {
      this.number = number;
    }

    boolean isUnparted() {
      return left == null || right == null;
    }

    int cutDetail(int what) {
      if (left == null || right == null) {
        return NOT_IN_THIS_STATE;
      }
      switch (what) {
        case 0:
          return cut.column;
        case 1:
          return cut.number;
        case 2:
          return cut.side;
        case 3:
          return left.number;
        default:
          return right.number;
      }
    }

    int ownDetail(int what) {
      switch (what) {
        case 5:
          return depth;
        case 6:
          return Integer.bitCount(rows);
        case 7:
          return label;
        default:
          return wrongRows;
      }
    }

    int stateAt(int stage) {
      if (stage >= goneFrom) {
        return GONE;
      }
      return stage >= leafFrom ? A_LEAF : PARTED;
    }

    void beginStages() {
      leafFrom = isUnparted() ? 0 : NEVER;
      goneFrom = NEVER;
    }

    /** The NODES below must have been summed up before. */
    void sumUp(int stage) {
      if (left == null || right == null || stage >= leafFrom) {
        leavesBelow = 1;
        wrongBelow = wrongRows;
      } else {
        leavesBelow = left.leavesBelow + right.leavesBelow;
        wrongBelow = left.wrongBelow + right.wrongBelow;
      }
    }

    void loseThoseBelow(int stage) {
      if (left != null && right != null) {
        left.goneFrom = Math.min(left.goneFrom, stage);
        right.goneFrom = Math.min(right.goneFrom, stage);
      }
    }
  }

  /** THE TREE of some ROWS. */
  private static final class Tree {
    int size;
    private final Table table;
    private final Limits limits;
    private final Survey survey;
    private final Node[] all = new Node[MOST_NODES];
    private final Node root;

    Tree(Table table, Limits limits, Survey survey) {
      this.table = table;
      this.limits = limits;
      this.survey = survey;
      for (int n = 0; n < MOST_NODES; n++) {
        all[n] = new Node(n);
      }
      root = all[0];
      size = 1;
    }

    Node find(int n) {
      return n >= 0 && n < size && n < MOST_NODES ? all[n] : null;
    }

    void grow(int rows) {
      begin(root, rows, 0);
      size = 1;
      for (int n = 0; n < size && n < MOST_NODES; n++) {
        partIfDue(all[n]);
      }
    }

    private void begin(Node node, int rows, int depth) {
      node.rows = rows;
      node.depth = depth;
      node.label = table.labelOf(rows);
      node.wrongRows = Integer.bitCount(rows) - table.countOf(rows, node.label);
      node.left = null;
      node.right = null;
    }

    private void partIfDue(Node node) {
      if (node.wrongRows == 0 || node.depth >= limits.depth || size + 2 > MOST_NODES) {
        return;
      }
      if (survey.look(node.rows) == 0 || !survey.best.gain.isAboveHundredths(limits.worth)) {
        return;
      }
      Cut cut = node.cut;
      cut.becomeAs(survey.best);
      int leftRows = table.leftOf(node.rows, cut.column, cut.number, cut.side);
      Node left = all[size];
      Node right = all[size + 1];
      begin(left, leftRows, node.depth + 1);
      begin(right, node.rows & ~leftRows, node.depth + 1);
      node.left = left;
      node.right = right;
      size += 2;
    }

    Node whereComes(int[] row) {
      Node at = root;
      for (int depth = 0; depth < MOST_DEPTH; depth++) {
        Node next = table.goesLeft(row, at.cut) ? at.left : at.right;
        if (next == null) {
          return at;
        }
        at = next;
      }
      return at;
    }
  }

  /** The STAGES of a TREE. NODES have greater numbers than those above them. */
  private static final class Pruning {
    int size;
    final Fraction[] alphas = new Fraction[MOST_STAGES];
    final int[] leafCounts = new int[MOST_STAGES];
    final int[] wrongSums = new int[MOST_STAGES];
    private final Tree tree;
    private final Fraction ofNode = new Fraction();

    Pruning(Tree tree) {
      this.tree = tree;
      for (int stage = 0; stage < MOST_STAGES; stage++) {
        alphas[stage] = new Fraction();
      }
      size = 0;
    }

    boolean has(int stage) {
      return stage >= 0 && stage < size && stage < MOST_STAGES;
    }

    void cutBackToRoot() {
      for (int n = 0; n < tree.size; n++) {
        Node node = tree.find(n);
        if (node != null) {
          node.beginStages();
        }
      }
      size = 0;
      boolean isParted = true;
      for (int stage = 0; stage < MOST_STAGES && isParted; stage++) {
        isParted = recordStage(stage);
        if (isParted && stage + 1 < MOST_STAGES) {
          findAlpha(stage, alphas[stage + 1]);
          cutBack(stage, alphas[stage + 1]);
        }
      }
    }

    /** Whether NODE 0 is parted in it. */
    private boolean recordStage(int stage) {
      for (int n = tree.size - 1; n >= 0; n--) {
        Node node = tree.find(n);
        if (node != null) {
          node.sumUp(stage);
        }
      }
      Node root = tree.root;
      leafCounts[stage] = root.leavesBelow;
      wrongSums[stage] = root.wrongBelow;
      size = stage + 1;
      return root.stateAt(stage) == PARTED;
    }

    private void findAlpha(int stage, Fraction alpha) {
      boolean isFirst = true;
      for (int n = 0; n < tree.size; n++) {
        Node node = tree.find(n);
        if (node != null && node.stateAt(stage) == PARTED) {
          weigh(node);
          if (isFirst || ofNode.compareWith(alpha) < 0) {
            alpha.becomeAs(ofNode);
          }
          isFirst = false;
        }
      }
    }

    private void cutBack(int stage, Fraction alpha) {
      for (int n = 0; n < tree.size; n++) {
        Node node = tree.find(n);
        if (node == null) {
          continue;
        }
        if (node.stateAt(stage) == PARTED) {
          weigh(node);
          if (ofNode.compareWith(alpha) == 0) {
            node.leafFrom = stage + 1;
          }
        }
        if (node.stateAt(stage + 1) != PARTED) {
          node.loseThoseBelow(stage + 1);
        }
      }
    }

    private void weigh(Node node) {
      ofNode.become(node.wrongRows - node.wrongBelow, node.leavesBelow - 1);
    }
  }
}
