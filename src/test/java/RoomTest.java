import com.sun.management.ThreadMXBean;
import java.lang.management.ManagementFactory;

/** What objects take of the room that all calls of a run share: new ones little, calls nothing. */
public final class RoomTest {
  private static final long MOST_FOR_A_NEW_ONE = 64_000;
  private static final long MOST_FOR_ITS_CALLS = 170_000;
  private static final ThreadMXBean THREADS = (ThreadMXBean) ManagementFactory.getThreadMXBean();

  public static void main(String[] args) {
    use(new ActBench(), 3);
    long start = taken();
    ActBench x = new ActBench();
    long made = taken();
    int calls = 0;
    for (int round = 0; round < 4; round++) calls += use(x, 2 + round % 2);
    long used = taken();
    System.out.println("a new object takes " + (made - start) + " bytes, " + calls + " calls " + (used - made));
    if (made - start > MOST_FOR_A_NEW_ONE || used - made > MOST_FOR_ITS_CALLS) System.exit(1);
  }

  private static long taken() {
    return THREADS.getThreadAllocatedBytes(Thread.currentThread().getId());
  }

  private static int use(ActBench x, int d) {
    x.fresh(d);
    x.row(0, 3, 40);
    for (int i = 0; i < 40; i++) x.write(0, i, i == 0 ? 1 : i % d);
    for (int k = 3; k >= 1; k--) {
      x.act(k, 0);
      x.law(k, 0);
    }
    x.riddle(8);
    for (int i = 0; i < 3; i++) x.ask(i, i, i + 1, i + 2);
    for (int n = 1; n <= 3; n++) {
      x.made(n);
      x.madeOf(n, 0, 0);
      x.size(n, 1);
      x.actsOf(7, n);
      x.actOf(0, n, 3);
      x.laws(n);
      x.closed(n - 1);
      x.keeps(0, n - 1);
      x.heap(n);
      x.pairing(n);
      x.signs(n);
      x.narrowed(n);
      x.answer(n);
      x.quick(n - 1);
    }
    x.heaps();
    x.pairings();
    x.whole();
    x.answers();
    x.tear(0);
    return 102;
  }
}
