import java.util.Random;

/** Runs of calls, drawn from fixed seeds, with each answer compared with the plain model's. */
public final class PlainModelTests {
  private static final int RUNS = 800;
  /** An object is good for 512 calls; the last question may take several. */
  private static final int CALLS = 500;
  private static final int[] ODD = {-1, -2, 2, 3, 4, 5, 6, 7, 9, 24, 47, 63, 64, 100, 101, 1001,
      Integer.MIN_VALUE, Integer.MAX_VALUE};
  private static final Check CHECK = new Check();

  private final BestSplits x = new BestSplits();
  private final PlainModel model = new PlainModel();
  private final Random random;
  private final int run;
  private final int[] greatest = new int[4];
  private final int unknownPercent;
  private final int classes;
  private final boolean classFollowsColumn;
  private int used = 0;
  private int deepest = 0;
  private int mostStages = 0;

  private PlainModelTests(int run) {
    this.run = run;
    random = new Random(1000L + run);
    int[] unknown = {0, 10, 30, 60};
    unknownPercent = unknown[random.nextInt(unknown.length)];
    classes = 1 + random.nextInt(8) % 3;
    classFollowsColumn = random.nextInt(3) == 0;
  }

  public static void main(String[] args) {
    int deepest = 0;
    int mostStages = 0;
    for (int run = 0; run < RUNS; run++) {
      PlainModelTests test = new PlainModelTests(run);
      test.play();
      deepest = Math.max(deepest, test.deepest);
      mostStages = Math.max(mostStages, test.mostStages);
    }
    // else the runs would say little
    CHECK.holds("some tree is as deep as can be", deepest == 5);
    CHECK.holds("some tree has many stages", mostStages >= 5);
    CHECK.end("PlainModelTests");
  }

  private void play() {
    setUp();
    int reworks = 0;
    while (used < CALLS) {
      if (random.nextInt(60) == 0 && reworks++ < 6) {
        change();
      } else {
        question();
      }
    }
  }

  private void setUp() {
    for (int c = 0; c < 4; c++) {
      int sort = random.nextInt(2);
      same("column " + c + " " + sort, x.column(c, sort), model.column(c, sort));
      int[] spans = {1, 3, 6, 12, 100};
      greatest[c] = sort == 1 ? 1 + random.nextInt(5) : spans[random.nextInt(spans.length)];
    }
    int rows = random.nextInt(4) == 0 ? random.nextInt(6) : 6 + random.nextInt(20);
    for (int r = 0; r < rows; r++) {
      addRow();
    }
    if (random.nextInt(4) != 0) {
      changeSettings();
    }
  }

  private int value(int c) {
    return random.nextInt(100) < unknownPercent ? -1 : random.nextInt(greatest[c] + 1);
  }

  private void addRow() {
    int a = value(0);
    int b = value(1);
    int c = value(2);
    int d = value(3);
    int cls = random.nextInt(classes);
    if (classFollowsColumn && random.nextInt(5) != 0) {
      cls = (Math.max(0, a) + Math.max(0, b)) % classes;
    }
    same("row " + a + " " + b + " " + c + " " + d + " " + cls, x.row(a, b, c, d, cls), model.row(a, b, c, d, cls));
  }

  private void changeSettings() {
    int depth = random.nextInt(3) == 0 ? random.nextInt(6) : 5;
    int least = random.nextInt(3) == 0 ? 1 + random.nextInt(10) : 1 + random.nextInt(2);
    int worth = random.nextInt(3) == 0 ? random.nextInt(300) : 0;
    same("settings " + depth + " " + least + " " + worth, x.settings(depth, least, worth), model.settings(depth, least, worth));
  }

  private void change() {
    int which = random.nextInt(12);
    if (which == 0) {
      same("clear", x.clear(), model.clear());
    } else if (which < 4) {
      changeSettings();
    } else if (which < 9) {
      addRow();
    } else if (which == 9) {
      int c = odd(4);
      int sort = odd(2);
      same("column " + c + " " + sort, x.column(c, sort), model.column(c, sort));
    } else if (which == 10) {
      int depth = odd(6);
      int least = odd(11);
      int worth = odd(1001);
      same("settings", x.settings(depth, least, worth), model.settings(depth, least, worth));
    } else {
      int d = odd(6);
      int cls = odd(3);
      same("row 0 0 0 " + d + " " + cls, x.row(0, 0, 0, d, cls), model.row(0, 0, 0, d, cls));
    }
  }

  /** Mostly below the bound, now and then anything. */
  private int odd(int bound) {
    return random.nextInt(8) == 0 ? ODD[random.nextInt(ODD.length)] : random.nextInt(Math.max(1, bound));
  }

  private void question() {
    int last = x.nodes() - 1;
    int stages = x.stages();
    deepest = Math.max(deepest, x.node(last, 5));
    mostStages = Math.max(mostStages, stages);
    int n = odd(last + 1);
    int stage = odd(stages);
    int part = odd(2);
    used += 3;
    switch (random.nextInt(14)) {
      case 0 -> same("nodes", x.nodes(), model.nodes());
      case 1, 2 -> askNode(n);
      case 3 -> askCount(n);
      case 4 -> same("gain " + n + " " + part, x.gain(n, part), model.gain(n, part));
      case 5 -> askLeaf();
      case 6 -> askLeafOf();
      case 7 -> same("cuts", x.cuts(), model.cuts());
      case 8 -> askCutGain(part);
      case 9 -> same("stages", x.stages(), model.stages());
      case 10 -> same("alpha " + stage + " " + part, x.alpha(stage, part), model.alpha(stage, part));
      case 11 -> {
        same("leaves " + stage, x.leaves(stage), model.leaves(stage));
        same("wrong " + stage, x.wrong(stage), model.wrong(stage));
      }
      case 12 -> same("state " + stage + " " + n, x.state(stage, n), model.state(stage, n));
      default -> {
        if (random.nextInt(8) == 0) {
          same("leftOut", x.leftOut(), model.leftOut());
        }
      }
    }
  }

  private void askNode(int n) {
    int what = odd(9);
    same("node " + n + " " + what, x.node(n, what), model.node(n, what));
  }

  private void askCount(int n) {
    int cls = odd(3);
    same("count " + n + " " + cls, x.count(n, cls), model.count(n, cls));
  }

  private void askLeaf() {
    int a = odd(greatest[0] + 2) - 1;
    int b = odd(greatest[1] + 2) - 1;
    int c = odd(greatest[2] + 2) - 1;
    int d = odd(greatest[3] + 2) - 1;
    same("leaf " + a + " " + b + " " + c + " " + d, x.leaf(a, b, c, d), model.leaf(a, b, c, d));
  }

  private void askLeafOf() {
    int r = odd(24);
    same("leafOf " + r, x.leafOf(r), model.leafOf(r));
  }

  private void askCutGain(int part) {
    int c = odd(4);
    int side = odd(2);
    for (int i = 0; i < 5; i++) {
      int number = odd(c >= 0 && c < 4 ? Math.max(16, greatest[c] + 1) : 9);
      same("cutGain " + c + " " + number + " " + side + " " + part,
          x.cutGain(c, number, side, part), model.cutGain(c, number, side, part));
    }
  }

  private void same(String call, int got, int want) {
    used++;
    CHECK.due("run " + run + ": " + call, got, want);
  }
}
