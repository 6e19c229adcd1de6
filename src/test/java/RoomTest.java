import com.sun.management.ThreadMXBean;
import java.lang.management.ManagementFactory;

/** A run lives in one room: all rows are made with the object, and no call makes anything. */
public final class RoomTest {
  private static final long MOST_OF_AN_OBJECT = 16384;
  private static final long MOST_OF_CALLS = 1024;
  private static final ThreadMXBean THREADS =
      (ThreadMXBean) ManagementFactory.getThreadMXBean();

  public static void main(String[] args) {
    useAll(new EldestSays());
    long before = made();
    EldestSays x = new EldestSays();
    long object = made() - before;
    before = made();
    useAll(x);
    long calls = made() - before;
    System.out.println("bytes of an object: " + object + ", of its calls: " + calls);
    Due.due("bytes of an object", Math.max(MOST_OF_AN_OBJECT, object), MOST_OF_AN_OBJECT);
    Due.due("bytes of all calls", Math.max(MOST_OF_CALLS, calls), MOST_OF_CALLS);
    Due.end();
  }

  private static long made() {
    return THREADS.getThreadAllocatedBytes(Thread.currentThread().getId());
  }

  private static int useAll(EldestSays x) {
    int sum = 0;
    for (int man = 0; man < 8; man++) {
      x.feed('m');
      x.feed('0' + man % 7);
      x.feed('0' + man);
      x.feed('1');
      x.feed(';');
    }
    sum += x.beach() + x.image();
    for (int k = 0; k < 8; k++) {
      sum += x.man(k, 1) + x.set(0, k + 10) + x.offered(0, k) + x.price(0, k) + x.votes(k);
      sum += x.carries(k) + x.ends(k) + x.gets(0, k) + x.bought(k) + x.row(k) + x.judge(k);
      sum += x.goes(k) + x.got(k) + x.alike(60, 10 + k, k, k > 3) + x.fewest() + x.clear();
      sum += x.byLaw(1, 1, k) + x.gains() + x.swap(0, k) + x.bestAge(k) + x.league(6);
      sum += (int) x.shaken(0) + x.seeds(k, 30, k) + x.says() + x.restore() + x.count(6);
    }
    return sum;
  }
}
