import java.util.Arrays;

/** The promises one by one: ordinary inputs, the edges that the document names, wrong inputs. */
final class PromisesTest {
  private static final int[] NO_BYTES = {Integer.MIN_VALUE, -1, 256, Integer.MAX_VALUE};
  private static final int[] NO_POOLS = {Integer.MIN_VALUE, -1, 32, Integer.MAX_VALUE};

  private PromisesTest() {}

  public static void main(String[] args) {
    promise1NewObject();
    promise2Init();
    promise3Event();
    promise4Tick();
    promise5Request();
    promise5WhenIsDrawn();
    promise5WhichPoolsAreDrawn();
    promise6Out();
    promise7Save();
    promise7SaveWithCrash();
    promise8Load();
    promise8LoadWithCrash();
    promise9Crash();
    promise10ByteOf();
    promise11Spoil();
    promise12About();
    Check.end();
  }

  // What the promises are told with.

  /** 3 bytes an event: 11 of them are 33, enough for a drawing. */
  private static void events(PoolDice dice, int pool, int count) {
    for (int i = 0; i < count; i++) {
      dice.event(i, pool, 10 + i);
    }
  }

  private static byte[] bytesOfEvents(int count) {
    byte[] row = new byte[3 * count];
    for (int i = 0; i < count; i++) {
      row[3 * i] = (byte) i;
      row[3 * i + 1] = 1;
      row[3 * i + 2] = (byte) (10 + i);
    }
    return row;
  }

  private static PoolDice seeded() {
    PoolDice dice = new PoolDice();
    events(dice, 0, 11);
    Check.due("request(1) that seeds", dice.request(1), 1);
    return dice;
  }

  private static byte[] join(byte[]... rows) {
    byte[] all = new byte[0];
    for (byte[] row : rows) {
      int end = all.length;
      all = Arrays.copyOf(all, end + row.length);
      System.arraycopy(row, 0, all, end, row.length);
    }
    return all;
  }

  private static byte[] reseeded(byte[] key, byte[] row) {
    return Arrays.copyOf(Model.twice(join(key, row)), 16);
  }

  private static byte[] counted(int count) {
    byte[] counter = new byte[16];
    counter[0] = (byte) count;
    counter[1] = (byte) (count >> 8);
    return counter;
  }

  /** So many blocks from a counter on, one behind the other. */
  private static byte[] blocks(byte[] key, int counter, int count) {
    byte[] all = new byte[0];
    for (int i = 0; i < count; i++) {
      all = join(all, Model.block(key, counted(counter + i)));
    }
    return all;
  }

  private static byte[] rowOf(PoolDice dice, int part, int from, int count) {
    byte[] row = new byte[count];
    for (int i = 0; i < count; i++) {
      row[i] = (byte) dice.byteOf(part, from + i);
    }
    return row;
  }

  private static byte[] givenBy(PoolDice dice, int count) {
    byte[] row = new byte[count];
    for (int i = 0; i < count; i++) {
      row[i] = (byte) dice.out(i);
    }
    return row;
  }

  private static byte[] keyOf(PoolDice dice) {
    return rowOf(dice, 0, 0, 16);
  }

  private static int counterOf(PoolDice dice) {
    return dice.byteOf(1, 0) + 256 * dice.byteOf(1, 1);
  }

  private static void dueRow(String what, byte[] got, byte[] want) {
    Check.due(what + " " + Arrays.toString(got), Arrays.equals(got, want), true);
  }

  private static void dueGeneratorAtFirst(String when, PoolDice dice) {
    dueRow(when + ": KEY", keyOf(dice), new byte[16]);
    dueRow(when + ": COUNTER", rowOf(dice, 1, 0, 16), new byte[16]);
    Check.due(when + ": RESEEDS", dice.about(0), 0);
    Check.due(when + ": CLOCK", dice.about(1), 0);
    Check.due(when + ": latest drawing", dice.about(2), -1);
    Check.due(when + ": crash told", dice.about(3), 0);
    Check.due(when + ": SEEDED", dice.about(5), 0);
    for (int pool = 0; pool < 32; pool++) {
      Check.due(when + ": bytes of pool " + pool, dice.about(6 + pool), 0);
    }
    Check.due(when + ": out(0)", dice.out(0), -1);
  }

  // The promises.

  private static void promise1NewObject() {
    PoolDice dice = new PoolDice();
    dueGeneratorAtFirst("new", dice);
    dueRow("new: disk", rowOf(dice, 2, 0, 129), new byte[129]);
    Check.due("new: writes", dice.about(4), 0);
    Check.due("new: request(1)", dice.request(1), -2);
    Check.due("new: save()", dice.save(), -2);
    Check.due("new: load()", dice.load(), 1);
    Check.due("NONE", PoolDice.NONE, -1);
  }

  private static void promise2Init() {
    PoolDice dice = seeded();
    dice.save();
    dice.tick(1000);
    for (int pool = 0; pool < 32; pool++) {
      dice.event(1, pool, 2);
    }
    dice.crash(3);
    byte[] disk = rowOf(dice, 2, 0, 129);
    dice.init();
    dueGeneratorAtFirst("init()", dice);
    dueRow("init(): disk", rowOf(dice, 2, 0, 129), disk);
    Check.due("init(): writes", dice.about(4), 65);
    Check.due("init(): load()", dice.load(), 0);
    dice.init();
    events(dice, 0, 11);
    Check.due("init(): request(1) draws at once", dice.request(1), 1);
    Check.due("init(): RESEEDS behind it", dice.about(0), 1);
  }

  private static void promise3Event() {
    PoolDice dice = new PoolDice();
    Check.due("event(0, 0, 0)", dice.event(0, 0, 0), true);
    Check.due("event(255, 31, 255)", dice.event(255, 31, 255), true);
    Check.due("event(3, 31, 200)", dice.event(3, 31, 200), true);
    byte[] high = {(byte) 255, 1, (byte) 255, 3, 1, (byte) 200};
    dueRow("TWICE of pool 0", rowOf(dice, 3, 0, 32), Model.twice(new byte[] {0, 1, 0}));
    dueRow("TWICE of pool 31", rowOf(dice, 34, 0, 32), Model.twice(high));
    for (int wrong : NO_BYTES) {
      Check.due("event(" + wrong + ", 0, 0)", dice.event(wrong, 0, 0), false);
      Check.due("event(0, 0, " + wrong + ")", dice.event(0, 0, wrong), false);
    }
    for (int wrong : NO_POOLS) {
      Check.due("event(0, " + wrong + ", 0)", dice.event(0, wrong, 0), false);
    }
    Check.due("bytes of pool 0", dice.about(6), 3);
    Check.due("bytes of pool 1", dice.about(7), 0);
    Check.due("bytes of pool 31", dice.about(37), 6);
    Check.due("event() does not seed", dice.about(5), 0);
  }

  private static void promise4Tick() {
    PoolDice dice = new PoolDice();
    Check.due("tick(0)", dice.tick(0), 0);
    Check.due("tick(5)", dice.tick(5), 5);
    Check.due("tick(-1)", dice.tick(-1), 5);
    Check.due("tick(least)", dice.tick(Integer.MIN_VALUE), 5);
    Check.due("tick(most)", dice.tick(Integer.MAX_VALUE), 5);
    Check.due("tick(most - 4)", dice.tick(Integer.MAX_VALUE - 4), 5);
    Check.due("tick(most - 5)", dice.tick(Integer.MAX_VALUE - 5), Integer.MAX_VALUE);
    Check.due("tick(1) at the end", dice.tick(1), Integer.MAX_VALUE);
    Check.due("CLOCK", dice.about(1), Integer.MAX_VALUE);
  }

  private static void promise5Request() {
    for (int n : new int[] {1, 15, 16, 17, 32, 255, 256}) {
      PoolDice dice = new PoolDice();
      events(dice, 0, 11);
      Check.due("request(" + n + ")", dice.request(n), n);
      byte[] key = reseeded(new byte[16], Model.twice(bytesOfEvents(11)));
      int whole = (n + 15) / 16;
      byte[] made = blocks(key, 1, whole + 1);
      dueRow("its bytes", givenBy(dice, n), Arrays.copyOf(made, n));
      byte[] next = Arrays.copyOfRange(made, 16 * whole, 16 * whole + 16);
      dueRow("the KEY behind it", keyOf(dice), next);
      Check.due("the COUNTER behind it", counterOf(dice), 2 + whole);
    }
    PoolDice dice = new PoolDice();
    events(dice, 0, 11);
    for (int wrong : new int[] {Integer.MIN_VALUE, -1, 0, 257, Integer.MAX_VALUE}) {
      Check.due("request(" + wrong + ")", dice.request(wrong), -1);
    }
    Check.due("wrong requests: bytes of pool 0", dice.about(6), 33);
    Check.due("wrong requests: RESEEDS", dice.about(0), 0);
    Check.due("wrong requests: COUNTER", counterOf(dice), 0);
  }

  private static void promise5WhenIsDrawn() {
    PoolDice dice = new PoolDice();
    events(dice, 0, 10);
    events(dice, 1, 20);
    Check.due("30 bytes in pool 0: request(1)", dice.request(1), -2);
    Check.due("30 bytes in pool 0: RESEEDS", dice.about(0), 0);
    Check.due("30 bytes in pool 0: they stay", dice.about(6), 30);
    events(dice, 0, 1);
    Check.due("33 bytes in pool 0: request(1)", dice.request(1), 1);
    events(dice, 0, 11);
    dice.tick(99);
    dice.request(1);
    Check.due("99 behind a drawing: RESEEDS", dice.about(0), 1);
    Check.due("99 behind a drawing: bytes of pool 0", dice.about(6), 33);
    dice.tick(1);
    dice.request(1);
    Check.due("100 behind a drawing: RESEEDS", dice.about(0), 2);
    Check.due("100 behind a drawing: bytes of pool 0", dice.about(6), 0);
    Check.due("100 behind a drawing: its time", dice.about(2), 100);
    dice.tick(1000);
    events(dice, 0, 10);
    Check.due("30 bytes once it is seeded: request(1)", dice.request(1), 1);
    Check.due("30 bytes once it is seeded: RESEEDS", dice.about(0), 2);
  }

  private static void promise5WhichPoolsAreDrawn() {
    PoolDice dice = new PoolDice();
    for (int pool = 1; pool <= 5; pool++) {
      dice.event(9, pool, pool);
    }
    for (int round = 1; round <= 8; round++) {
      events(dice, 0, 11);
      byte[] key = reseeded(keyOf(dice), rowDrawn(round));
      int counter = counterOf(dice) + 1;
      dice.tick(100);
      dice.request(1);
      dueRow("drawing " + round, keyOf(dice), blocks(key, counter + 1, 1));
      Check.due("drawing " + round + ": COUNTER", counterOf(dice), counter + 2);
      for (int pool = 0; pool <= 5; pool++) {
        Check.due("pool " + pool, dice.about(6 + pool), round >= 1 << pool ? 0 : 3);
      }
    }
  }

  /** Pool 0 has its events each time, a higher one has one event the first time alone. */
  private static byte[] rowDrawn(int round) {
    byte[] row = Model.twice(bytesOfEvents(11));
    for (int pool = 1; pool < 32 && round % (1L << pool) == 0; pool++) {
      boolean first = round == 1 << pool;
      row = join(row, Model.twice(first ? new byte[] {9, 1, (byte) pool} : new byte[0]));
    }
    return row;
  }

  private static void promise6Out() {
    PoolDice dice = new PoolDice();
    Check.due("out(0) of none", dice.out(0), -1);
    dice.request(4);
    Check.due("out(0) behind -2", dice.out(0), -1);
    events(dice, 0, 11);
    byte[] key = reseeded(new byte[16], Model.twice(bytesOfEvents(11)));
    dice.request(20);
    byte[] given = Arrays.copyOf(blocks(key, 1, 2), 20);
    dueRow("out", givenBy(dice, 20), given);
    for (int wrong : new int[] {Integer.MIN_VALUE, -1, 20, 31, 255, 256, Integer.MAX_VALUE}) {
      Check.due("out(" + wrong + ")", dice.out(wrong), -1);
    }
    dice.request(0);
    dice.request(257);
    dice.save();
    dice.load();
    dueRow("out behind other calls", givenBy(dice, 20), given);
    dice.crash(1);
    Check.due("out(19) with a crash told", dice.out(19), given[19] & 255);
    dice.request(3);
    Check.due("out(2) of a shorter one", dice.out(2) >= 0, true);
    Check.due("out(3) of a shorter one", dice.out(3), -1);
    Check.due("the crash", dice.save(), 5);
    Check.due("out(0) behind a crash", dice.out(0), -1);
    events(dice, 0, 11);
    dice.request(3);
    dice.init();
    Check.due("out(0) behind init()", dice.out(0), -1);
  }

  private static void promise7Save() {
    PoolDice dice = new PoolDice();
    Check.due("save() not seeded", dice.save(), -2);
    Check.due("save() not seeded: writes", dice.about(4), 0);
    for (int mark : new int[] {0, 1, 2, 3, 255}) {
      promise7SaveWithMark(mark);
    }
    dice = seeded();
    for (int i = 1; i <= 5; i++) {
      Check.due("save() " + i, dice.save(), 0);
      Check.due("save() " + i + ": MARK", dice.byteOf(2, 0), 2 - i % 2);
      Check.due("save() " + i + ": writes", dice.about(4), 65 * i);
    }
  }

  private static void promise7SaveWithMark(int mark) {
    PoolDice dice = seeded();
    for (int i = 1; i <= 128; i++) {
      dice.spoil(i, i);
    }
    dice.spoil(0, mark);
    byte[] disk = rowOf(dice, 2, 0, 129);
    int counter = counterOf(dice);
    byte[] made = blocks(keyOf(dice), counter, 5);
    System.arraycopy(made, 0, disk, mark == 1 ? 65 : 1, 64);
    disk[0] = (byte) (mark == 1 ? 2 : 1);
    Check.due("save() with MARK " + mark, dice.save(), 0);
    dueRow("the disk behind it", rowOf(dice, 2, 0, 129), disk);
    dueRow("the KEY behind it", keyOf(dice), Arrays.copyOfRange(made, 64, 80));
    Check.due("the COUNTER behind it", counterOf(dice), counter + 5);
  }

  private static void promise7SaveWithCrash() {
    for (int n = 1; n <= 65; n++) {
      PoolDice dice = seeded();
      dice.save();
      events(dice, 4, 2);
      dice.tick(7);
      byte[] disk = rowOf(dice, 2, 0, 129);
      byte[] made = blocks(keyOf(dice), counterOf(dice), 4);
      System.arraycopy(made, 0, disk, 65, n - 1);
      dice.crash(n);
      Check.due("save() with a crash at " + n, dice.save(), 5);
      dueRow("the disk behind it", rowOf(dice, 2, 0, 129), disk);
      Check.due("writes behind it", dice.about(4), 64 + n);
      dueGeneratorAtFirst("crash at " + n, dice);
      Check.due("save() behind it", dice.save(), -2);
    }
    PoolDice dice = seeded();
    dice.crash(66);
    Check.due("save() with a crash at 66", dice.save(), 0);
    Check.due("save() behind it", dice.save(), 5);
    Check.due("the MARK is still that of the first", dice.byteOf(2, 0), 1);
  }

  private static void promise8Load() {
    for (int mark = 0; mark <= 255; mark++) {
      PoolDice dice = new PoolDice();
      for (int i = 1; i <= 128; i++) {
        dice.spoil(i, 2 * i % 251);
      }
      dice.spoil(0, mark);
      boolean told = mark == 1 || mark == 2;
      byte[] disk = rowOf(dice, 2, 0, 129);
      Check.due("load() with MARK " + mark, dice.load(), told ? 0 : 1);
      if (told) {
        dueLoaded(dice, mark, disk);
      } else {
        dueGeneratorAtFirst("load() without a seed", dice);
        dueRow("load() without a seed: disk", rowOf(dice, 2, 0, 129), disk);
      }
    }
    PoolDice dice = seeded();
    dice.save();
    byte[] key = reseeded(keyOf(dice), rowOf(dice, 2, 1, 64));
    int counter = counterOf(dice);
    Check.due("load() once it is seeded", dice.load(), 0);
    dueRow("the KEY behind it", keyOf(dice), blocks(key, counter + 5, 1));
    Check.due("RESEEDS behind it", dice.about(0), 1);
  }

  private static void dueLoaded(PoolDice dice, int mark, byte[] disk) {
    int from = mark == 1 ? 1 : 65;
    byte[] key = reseeded(new byte[16], Arrays.copyOfRange(disk, from, from + 64));
    byte[] made = blocks(key, 1, 5);
    System.arraycopy(made, 0, disk, 66 - from, 64);
    disk[0] = (byte) (3 - mark);
    dueRow("load(): disk", rowOf(dice, 2, 0, 129), disk);
    dueRow("load(): KEY", keyOf(dice), Arrays.copyOfRange(made, 64, 80));
    Check.due("load(): COUNTER", counterOf(dice), 6);
    Check.due("load(): SEEDED", dice.about(5), 1);
    Check.due("load(): RESEEDS", dice.about(0), 0);
    Check.due("load(): latest drawing", dice.about(2), -1);
    Check.due("load(): writes", dice.about(4), 65);
    Check.due("load(): request(1)", dice.request(1), 1);
  }

  private static void promise8LoadWithCrash() {
    for (int n : new int[] {1, 2, 64, 65}) {
      PoolDice dice = seeded();
      dice.save();
      byte[] before = rowOf(dice, 2, 0, 65);
      dice.crash(n);
      Check.due("load() with a crash at " + n, dice.load(), 5);
      dueGeneratorAtFirst("load() with a crash at " + n, dice);
      dueRow("MARK and old seed behind it", rowOf(dice, 2, 0, 65), before);
      Check.due("writes behind it", dice.about(4), 64 + n);
      Check.due("load() behind it", dice.load(), 0);
    }
    PoolDice dice = new PoolDice();
    dice.crash(1);
    Check.due("load() without a seed", dice.load(), 1);
    Check.due("the crash is still told", dice.about(3), 1);
  }

  private static void promise9Crash() {
    PoolDice dice = seeded();
    dice.crash(100);
    Check.due("crash(100)", dice.about(3), 100);
    dice.request(256);
    dice.spoil(5, 5);
    Check.due("no write, none counted", dice.about(3), 100);
    dice.save();
    Check.due("65 writes later", dice.about(3), 35);
    dice.crash(70);
    Check.due("crash(70) from now on", dice.about(3), 70);
    for (int none : new int[] {0, -1, Integer.MIN_VALUE}) {
      dice.crash(9);
      dice.crash(none);
      Check.due("crash(" + none + ")", dice.about(3), 0);
      Check.due("save() behind crash(" + none + ")", dice.save(), 0);
    }
    dice.crash(Integer.MAX_VALUE);
    Check.due("crash(most)", dice.about(3), Integer.MAX_VALUE);
    dice.save();
    Check.due("crash(most), 65 writes later", dice.about(3), Integer.MAX_VALUE - 65);
    dice.crash(1);
    Check.due("crash(1) alone changes nothing", dice.about(5), 1);
    Check.due("crash(1)", dice.save(), 5);
    Check.due("none is told behind it", dice.about(3), 0);
  }

  private static void promise10ByteOf() {
    PoolDice dice = seeded();
    dice.save();
    dice.event(1, 31, 2);
    int[] parts = {0, 1, 2, 3, 34};
    int[] counts = {16, 16, 129, 32, 32};
    for (int k = 0; k < parts.length; k++) {
      Check.due("last byte of part " + parts[k], dice.byteOf(parts[k], counts[k] - 1) >= 0, true);
      for (int wrong : new int[] {Integer.MIN_VALUE, -1, counts[k], Integer.MAX_VALUE}) {
        Check.due("byteOf(" + parts[k] + ", " + wrong + ")", dice.byteOf(parts[k], wrong), -1);
      }
    }
    int[] noParts = {Integer.MIN_VALUE, Integer.MIN_VALUE + 2, -1, 35, Integer.MAX_VALUE};
    for (int wrong : noParts) {
      Check.due("byteOf(" + wrong + ", 0)", dice.byteOf(wrong, 0), -1);
    }
    promise10Pools();
    promise10Counter();
  }

  /** All the lengths about one and two times 64, where the filling of a DIGEST changes. */
  private static void promise10Pools() {
    PoolDice dice = new PoolDice();
    for (int count = 0; count <= 64; count++) {
      byte[] due = Model.twice(bytesOfEvents(count));
      int at = count % 32;
      Check.due("TWICE of " + 3 * count + " bytes", dice.byteOf(10, at), due[at] & 255);
      Check.due("TWICE once more", dice.byteOf(10, at), due[at] & 255);
      Check.due("they stay", dice.about(13), 3 * count);
      dice.event(count, 7, 10 + count);
    }
  }

  private static void promise10Counter() {
    PoolDice dice = seeded();
    for (int i = 0; i < 15; i++) {
      dice.request(256);
    }
    Check.due("COUNTER, lowest byte", dice.byteOf(1, 0), (3 + 15 * 17) % 256);
    Check.due("COUNTER, second byte", dice.byteOf(1, 1), (3 + 15 * 17) / 256);
    Check.due("COUNTER, third byte", dice.byteOf(1, 2), 0);
  }

  private static void promise11Spoil() {
    PoolDice dice = new PoolDice();
    dice.crash(2);
    Check.due("spoil(0, 255)", dice.spoil(0, 255), true);
    Check.due("spoil(128, 7)", dice.spoil(128, 7), true);
    Check.due("spoil(64, 9)", dice.spoil(64, 9), true);
    Check.due("spoil(64, 0)", dice.spoil(64, 0), true);
    for (int wrong : NO_BYTES) {
      Check.due("spoil(1, " + wrong + ")", dice.spoil(1, wrong), false);
      Check.due("spoil(0, " + wrong + ")", dice.spoil(0, wrong), false);
    }
    for (int wrong : new int[] {Integer.MIN_VALUE, -1, 129, Integer.MAX_VALUE}) {
      Check.due("spoil(" + wrong + ", 1)", dice.spoil(wrong, 1), false);
    }
    byte[] disk = new byte[129];
    disk[0] = (byte) 255;
    disk[128] = 7;
    dueRow("the disk", rowOf(dice, 2, 0, 129), disk);
    Check.due("no write that is counted", dice.about(4), 0);
    Check.due("none till the crash", dice.about(3), 2);
  }

  private static void promise12About() {
    PoolDice dice = new PoolDice();
    events(dice, 0, 11);
    events(dice, 5, 2);
    events(dice, 31, 1);
    dice.tick(42);
    dice.request(1);
    dice.tick(8);
    dice.save();
    dice.crash(77);
    int[] due = {1, 50, 42, 77, 65, 1};
    for (int what = 0; what < due.length; what++) {
      Check.due("about(" + what + ")", dice.about(what), due[what]);
    }
    Check.due("about(6)", dice.about(6), 0);
    Check.due("about(11)", dice.about(11), 6);
    Check.due("about(37)", dice.about(37), 3);
    int[] others = {Integer.MIN_VALUE, Integer.MIN_VALUE + 5, -1, 38, Integer.MAX_VALUE};
    for (int wrong : others) {
      Check.due("about(" + wrong + ")", dice.about(wrong), -1);
    }
    PoolDice early = seeded();
    Check.due("drawn at 0", early.about(2), 0);
  }
}
