import com.sun.management.ThreadMXBean;
import java.lang.management.ManagementFactory;

/** Any arguments in any state, also long behind the 512th call: no call throws, little is made. */
final class LimitsTest {
  private static final int[] ARGUMENTS = {
    Integer.MIN_VALUE, Integer.MIN_VALUE + 2, Integer.MIN_VALUE + 5, -1, 0, 1, 2, 31, 32, 34, 35,
    37, 38, 128, 129, 255, 256, 257, Integer.MAX_VALUE
  };

  private LimitsTest() {}

  public static void main(String[] args) {
    anyArguments(new PoolDice());
    anyArguments(seeded());
    anyArguments(withSeedOnDisk());
    manyEvents();
    sameCallsSameAnswers();
    littleIsMade();
    Check.end();
  }

  private static PoolDice seeded() {
    PoolDice dice = new PoolDice();
    for (int i = 0; i < 11; i++) {
      dice.event(i, 0, i);
    }
    dice.request(1);
    return dice;
  }

  private static PoolDice withSeedOnDisk() {
    PoolDice dice = seeded();
    dice.save();
    dice.init();
    return dice;
  }

  private static void anyArguments(PoolDice dice) {
    for (int a : ARGUMENTS) {
      for (int b : ARGUMENTS) {
        for (int c : ARGUMENTS) {
          dice.event(a, b, c);
        }
        dice.byteOf(a, b);
        dice.spoil(a, b);
      }
      dice.tick(a);
      dice.request(a);
      dice.out(a);
      dice.about(a);
      dice.crash(a);
      dice.save();
      dice.load();
    }
    dice.init();
  }

  private static void manyEvents() {
    PoolDice dice = new PoolDice();
    for (int i = 0; i < 512; i++) {
      Check.due("event " + i, dice.event(7, 3, i & 255), true);
    }
    for (int i = 0; i < 5000; i++) {
      dice.event(7, 3, 9);
    }
    dice.byteOf(6, 0);
  }

  private static void sameCallsSameAnswers() {
    PoolDice first = seeded();
    PoolDice second = seeded();
    for (int i = 0; i < 16; i++) {
      Check.due("byteOf(0, " + i + ") of a second object", second.byteOf(0, i), first.byteOf(0, i));
    }
  }

  /** A room of some millions of elements holds all that a run makes: rows are used again. */
  private static void littleIsMade() {
    ThreadMXBean threads = (ThreadMXBean) ManagementFactory.getThreadMXBean();
    if (!threads.isThreadAllocatedMemorySupported() || !threads.isThreadAllocatedMemoryEnabled()) {
      return;
    }
    dearRun();
    long before = threads.getCurrentThreadAllocatedBytes();
    dearRun();
    long made = threads.getCurrentThreadAllocatedBytes() - before;
    Check.due("a run of 512 calls makes over 64 KiB: " + made, made > 65536, false);
  }

  private static void dearRun() {
    PoolDice dice = seeded();
    for (int i = 0; i < 100; i++) {
      dice.event(i, 0, i);
      dice.request(256);
      dice.save();
      dice.load();
      dice.byteOf(3, 31);
    }
  }
}
