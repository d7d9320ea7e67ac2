import com.sun.management.ThreadMXBean;
import java.lang.management.ManagementFactory;

/** That calls make no objects, and that a run of the dearest calls ends soon. */
public final class RoomTests {
  private static final Check CHECK = new Check();
  private static final int CALLS = 512;
  private static final long MOST_BYTES_OF_ONE = 64 * 1024;
  private static final long MOST_BYTES_OF_CALLS = 16 * 1024;
  private static final long MOST_MILLIS = 60_000;

  public static void main(String[] args) {
    callsMakeNothing();
    dearestRunEnds();
    CHECK.end("RoomTests");
  }

  private static BestSplits fullOfKinds() {
    BestSplits x = new BestSplits();
    for (int c = 0; c < 4; c++) {
      x.column(c, 1);
    }
    for (int r = 0; r < 24; r++) {
      int kind = r * 7 % 6;
      x.row(r % 6, kind, r * r % 7 - 1, (r / 4 + r) % 7 - 1, r * 5 / 3 % 3);
    }
    return x;
  }

  private static void callsMakeNothing() {
    ThreadMXBean threads = (ThreadMXBean) ManagementFactory.getThreadMXBean();
    long self = Thread.currentThread().getId();
    askAll(fullOfKinds(), 1);
    long before = threads.getThreadAllocatedBytes(self);
    BestSplits x = fullOfKinds();
    long made = threads.getThreadAllocatedBytes(self);
    askAll(x, CALLS);
    long after = threads.getThreadAllocatedBytes(self);
    CHECK.holds("one object takes " + (made - before) + " bytes", made - before < MOST_BYTES_OF_ONE);
    CHECK.holds("its calls take " + (after - made) + " bytes", after - made < MOST_BYTES_OF_CALLS);
  }

  private static int askAll(BestSplits x, int times) {
    int sum = 0;
    for (int i = 0; i < times; i++) {
      sum += x.settings(5, 1 + i % 2, 0) + x.nodes() + x.node(0, i % 9) + x.count(0, 1) + x.gain(0, 0);
      sum += x.leaf(-1, 2, 3, 4) + x.leafOf(3) + x.cuts() + x.cutGain(0, 1, 0, 1) + x.stages();
      sum += x.alpha(1, 0) + x.leaves(1) + x.wrong(1) + x.state(1, 1) + x.row(0, 0, 0, 0, 0) + x.column(0, 0);
      sum += i % 64 == 0 ? x.leftOut() : 0;
    }
    return sum;
  }

  private static void dearestRunEnds() {
    long begun = System.nanoTime();
    BestSplits x = fullOfKinds();
    int sum = 0;
    for (int i = 0; i < CALLS / 2; i++) {
      sum += x.settings(5, 1, i % 2) + x.leftOut();
    }
    long millis = (System.nanoTime() - begun) / 1_000_000;
    System.out.println("the dearest run took " + millis + " ms");
    CHECK.holds("it ended soon: " + millis + " ms", millis < MOST_MILLIS && sum > 0);
  }
}
