/** A PoolDice whose calls are counted, as the document tells nothing behind the 512th. */
final class Dice {
  static final int MOST_CALLS = 512;

  private final PoolDice dice = new PoolDice();
  private int calls = 0;

  /** It has drawn once, at CLOCK 0, and its COUNTER is 3. */
  static Dice seeded() {
    Dice made = new Dice();
    made.events(0, 11);
    made.request(1);
    return made;
  }

  /** A COUNTER from 5 on: a request of 16 k bytes counts k + 1. */
  static Dice withCounter(int counter) {
    Dice made = seeded();
    int left = counter - 3;
    while (left > 0) {
      int step = left == 18 ? 16 : Math.min(left, 17);
      made.request(16 * (step - 1));
      left -= step;
    }
    return made;
  }

  /** Nothing of it is as at first, and the next request would draw. */
  static Dice busy() {
    Dice made = seeded();
    made.save();
    made.save();
    for (int pool = 1; pool < 32; pool++) {
      made.event(pool, pool, 3);
    }
    made.tick(1234);
    made.request(20);
    made.events(0, 11);
    made.crash(100);
    return made;
  }

  private PoolDice called() {
    calls++;
    if (calls == MOST_CALLS + 1) {
      throw new IllegalStateException("a test uses an object for more than 512 calls");
    }
    return dice;
  }

  void init() {
    called().init();
  }

  boolean event(int source, int pool, int b) {
    return called().event(source, pool, b);
  }

  int tick(int ms) {
    return called().tick(ms);
  }

  int request(int n) {
    return called().request(n);
  }

  int out(int i) {
    return called().out(i);
  }

  int save() {
    return called().save();
  }

  int load() {
    return called().load();
  }

  void crash(int n) {
    called().crash(n);
  }

  int byteOf(int part, int i) {
    return called().byteOf(part, i);
  }

  boolean spoil(int i, int b) {
    return called().spoil(i, b);
  }

  int about(int what) {
    return called().about(what);
  }

  // Many calls at once.

  /** 3 bytes an event: 11 of them are 33, enough for a drawing. */
  void events(int pool, int count) {
    for (int i = 0; i < count; i++) {
      event(i & 255, pool, 10 + i & 255);
    }
  }

  int[] row(int part, int from, int count) {
    int[] row = new int[count];
    for (int i = 0; i < count; i++) {
      row[i] = byteOf(part, from + i);
    }
    return row;
  }

  int[] key() {
    return row(0, 0, 16);
  }

  int[] counterRow() {
    return row(1, 0, 16);
  }

  /** The COUNTER, which 512 calls don't bring to 65536. */
  int counter() {
    return byteOf(1, 0) + 256 * byteOf(1, 1);
  }

  int[] disk() {
    return row(2, 0, 129);
  }

  int[] given(int count) {
    int[] row = new int[count];
    for (int i = 0; i < count; i++) {
      row[i] = out(i);
    }
    return row;
  }

  int[] poolSizes() {
    int[] row = new int[32];
    for (int pool = 0; pool < 32; pool++) {
      row[pool] = about(6 + pool);
    }
    return row;
  }

  /** A byte of each pool's TWICE. */
  int[] poolMarks() {
    int[] row = new int[32];
    for (int pool = 0; pool < 32; pool++) {
      row[pool] = byteOf(3 + pool, pool);
    }
    return row;
  }

  /** What a crash and init() set back, by 133 calls. */
  int[] generator() {
    int[] numbers = {about(0), about(1), about(2), about(3), about(5)};
    return Rows.join(numbers, key(), counterRow(), poolSizes(), poolMarks(), given(32));
  }

  /** All that can be seen, by 263 calls. */
  int[] all() {
    return Rows.join(generator(), disk(), new int[] {about(4)});
  }
}
