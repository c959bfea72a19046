import java.util.Arrays;

/** "What it is" and "Terms": each sentence that names a boundary, on both sides of it. */
final class TermsTest {
  private TermsTest() {}

  public static void main(String[] args) {
    lastOf512Calls();
    digestFillsUpToWhole64();
    digestTellsItsBits();
    blockOfManyKeys();
    counterLowestFirst();
    seededWhenCounterIsNot0();
    reseedingCountsOverAByte();
    generatingCountsOverAByte();
    generatingGivesTheFirstOfTheBlocks();
    drawingTakesMultiplesOfPowers();
    drawingTakesPoolsInOrder();
    drawingNeverReachesPool6();
    drawnPoolIsEmpty();
    drawnEmptyPoolCounts();
    timeOfDrawingIsTheClock();
    diskIsZerosAtFirst();
    markTellsWhereTheSeedLies();
    savingWritesWhereTheMarkIsNot();
    savingTakesTurns();
    markIsWrittenLast();
    crashCutsOffTheCall();
    crashLeavesNothingTold();
    crashSetsBackTheGenerator();
    Check.end();
  }

  // What it is.

  private static void lastOf512Calls() {
    Check.sentence("An object is used for at most 512 calls after it has been made");
    for (int pool : new int[] {0, 31}) {
      Dice fed = new Dice();
      for (int i = 1; i <= 512; i++) {
        Check.due("event " + i + " into pool " + pool, fed.event(i & 255, pool, 7), true);
      }
      Dice sized = new Dice();
      sized.events(pool, 511);
      Check.due("bytes of pool " + pool, sized.about(6 + pool), 3 * 511);
      for (int i = 0; i < 32; i += 31) {
        Dice digested = new Dice();
        digested.events(pool, 511);
        int due = Rows.twice(Rows.ofEvents(511))[i];
        Check.due("TWICE of pool " + pool, digested.byteOf(3 + pool, i), due);
      }
    }
    lastOf512CallsThatDraw();
    lastOf512CallsThatGenerate();
  }

  private static void lastOf512CallsThatDraw() {
    Dice full = new Dice();
    full.events(0, 511);
    Check.due("request(256) as call 512", full.request(256), 256);
    Dice looked = new Dice();
    looked.events(0, 510);
    looked.request(256);
    int[] key = Rows.reseeded(new int[16], Rows.twice(Rows.ofEvents(510)));
    Check.due("out(255) as call 512", looked.out(255), Rows.blocks(key, 1, 16)[255]);
  }

  private static void lastOf512CallsThatGenerate() {
    Dice asked = Dice.seeded();
    Dice saved = Dice.seeded();
    for (int call = 13; call < 512; call++) {
      Check.due("request(256) as call " + call, asked.request(256), 256);
      Check.due("save() as call " + call, saved.save(), 0);
    }
    Check.due("COUNTER, byte 1", asked.byteOf(1, 1), (3 + 17 * 499) / 256);
    Check.due("writes", saved.about(4), 65 * 499);
  }

  // DIGEST and BLOCK.

  private static void digestFillsUpToWhole64() {
    Check.sentence("zeros up to 8 bytes before a whole 64");
    // Three times 0 .. 64 leave every rest by 64: 55 and 56 too, where the filling gets longer.
    for (int count = 0; count <= 64; count++) {
      Dice dice = new Dice();
      dice.events(7, count);
      int[] due = Rows.twice(Rows.ofEvents(count));
      Check.due("TWICE of " + 3 * count + " bytes", dice.row(10, 0, 32), due);
    }
  }

  private static void digestTellsItsBits() {
    Check.sentence("how many bits it had in 8 bytes");
    // 240 bits go into a byte, 264 don't; 480 events are the most that leave calls for 32 looks.
    for (int count : new int[] {10, 11, 170, 171, 480}) {
      Dice dice = new Dice();
      dice.events(31, count);
      int[] due = Rows.twice(Rows.ofEvents(count));
      Check.due("TWICE of " + 3 * count + " bytes", dice.row(34, 0, 32), due);
    }
  }

  private static void blockOfManyKeys() {
    Check.sentence("c is the one that makes 1 with b (0 for 0)");
    // So many blocks ask for S of every byte, 0 among them, and for 2 and 3 times every byte.
    for (int seed = 0; seed < 100; seed++) {
      Dice dice = new Dice();
      dice.spoil(0, 1);
      dice.spoil(1, seed);
      dice.load();
      int[] made = Rows.blocks(dice.key(), 6, 17);
      dice.request(256);
      Check.due("blocks, seed " + seed, dice.given(256), Rows.part(made, 0, 256));
      Check.due("KEY, seed " + seed, dice.key(), Rows.part(made, 256, 16));
    }
  }

  // THE GENERATOR.

  private static void counterLowestFirst() {
    Check.sentence("a COUNTER, 16 bytes, the lowest first (0)");
    Check.due("at first", new Dice().counterRow(), new int[16]);
    for (int counter : new int[] {255, 256, 257, 511, 512, 4095, 4096}) {
      Dice dice = Dice.withCounter(counter);
      Check.due("COUNTER " + counter, dice.counterRow(), Rows.counter(counter));
    }
  }

  private static void seededWhenCounterIsNot0() {
    Check.sentence("It is SEEDED when the COUNTER is not 0.");
    Dice dice = new Dice();
    Check.due("COUNTER 0", dice.about(5), 0);
    dice.events(0, 11);
    dice.tick(1000);
    dice.request(0);
    dice.save();
    dice.load();
    Check.due("COUNTER 0 still", dice.about(5), 0);
    dice.request(1);
    Check.due("COUNTER 3", dice.about(5), 1);
    dice.init();
    Check.due("COUNTER 0 again", dice.about(5), 0);
    Dice loaded = new Dice();
    loaded.spoil(0, 2);
    loaded.load();
    Check.due("COUNTER 6, without a drawing", loaded.about(5), 1);
    // The lowest byte of these is 0.
    for (int counter : new int[] {255, 256, 257, 512, 1024}) {
      Dice high = Dice.withCounter(counter);
      Check.due("COUNTER " + counter, high.about(5), 1);
      Check.due("COUNTER " + counter + ": request(1)", high.request(1), 1);
      Check.due("COUNTER " + counter + ": save()", Dice.withCounter(counter).save(), 0);
    }
  }

  private static void reseedingCountsOverAByte() {
    Check.sentence("the COUNTER is one more");
    // The second drawing: pool 1, which is empty, is drawn from too.
    int[] row = Rows.join(Rows.twice(Rows.ofEvents(11)), Rows.twice(new int[0]));
    for (int counter = 253; counter <= 257; counter++) {
      Dice drawn = Dice.withCounter(counter);
      drawn.events(0, 11);
      drawn.tick(100);
      int[] key = Rows.reseeded(drawn.key(), row);
      drawn.request(16);
      Check.due("drawn at " + counter, drawn.given(16), Rows.blocks(key, counter + 1, 1));
      Check.due("drawn at " + counter, drawn.counterRow(), Rows.counter(counter + 3));
      Dice loaded = Dice.withCounter(counter);
      loaded.spoil(0, 1);
      loaded.load();
      Check.due("loaded at " + counter, loaded.counterRow(), Rows.counter(counter + 6));
    }
  }

  private static void generatingCountsOverAByte() {
    Check.sentence("one behind the other, the COUNTER one more behind each");
    for (int counter = 251; counter <= 257; counter++) {
      Dice dice = Dice.withCounter(counter);
      int[] made = Rows.blocks(dice.key(), counter, 4);
      dice.request(48);
      Check.due("bytes from COUNTER " + counter, dice.given(48), Rows.part(made, 0, 48));
      Check.due("KEY from COUNTER " + counter, dice.key(), Rows.part(made, 48, 16));
      Check.due("COUNTER from " + counter, dice.counterRow(), Rows.counter(counter + 4));
    }
  }

  private static void generatingGivesTheFirstOfTheBlocks() {
    Check.sentence("the first n bytes of them; then the KEY is the next block, likewise");
    int[] key = Rows.reseeded(new int[16], Rows.twice(Rows.ofEvents(11)));
    int[] made = Rows.blocks(key, 1, 17);
    for (int n = 1; n <= 256; n++) {
      Dice dice = new Dice();
      dice.events(0, 11);
      dice.request(n);
      int whole = (n + 15) / 16;
      Check.due("bytes of request(" + n + ")", dice.given(n), Rows.part(made, 0, n));
      Check.due("KEY behind request(" + n + ")", dice.key(), Rows.part(made, 16 * whole, 16));
      Check.due("COUNTER behind request(" + n + ")", dice.counter(), 2 + whole);
    }
  }

  // DRAWING.

  private static void drawings(Dice dice, int count) {
    for (int i = 0; i < count; i++) {
      dice.events(0, 11);
      dice.tick(100);
      dice.request(1);
    }
  }

  private static void drawingTakesMultiplesOfPowers() {
    Check.sentence("of each pool i with RESEEDS a multiple of 2^i");
    for (int pool = 1; pool <= 5; pool++) {
      int power = 1 << pool;
      Dice dice = new Dice();
      dice.events(pool, 2);
      dice.events(pool + 1, 1);
      drawings(dice, power - 1);
      Check.due("pool " + pool + " at RESEEDS " + (power - 1), dice.about(6 + pool), 6);
      drawings(dice, 1);
      Check.due("RESEEDS", dice.about(0), power);
      Check.due("pool 0 at RESEEDS " + power, dice.about(6), 0);
      Check.due("pool " + pool + " at RESEEDS " + power, dice.about(6 + pool), 0);
      Check.due("pool " + (pool + 1) + " at RESEEDS " + power, dice.about(7 + pool), 3);
      dice.events(pool, 1);
      drawings(dice, 1);
      Check.due("pool " + pool + " at RESEEDS " + (power + 1), dice.about(6 + pool), 3);
    }
  }

  private static void drawingTakesPoolsInOrder() {
    Check.sentence("in order: TWICE of its bytes");
    for (int round : new int[] {1, 2, 3, 4, 5, 6, 7, 8, 9, 16, 31, 32, 33}) {
      Dice dice = new Dice();
      drawings(dice, round - 1);
      for (int pool = 1; pool <= 6; pool++) {
        dice.event(200 + pool, pool, pool);
      }
      dice.tick(100);
      int[] key = dice.key();
      int counter = dice.counter();
      dice.events(0, 11);
      dice.request(1);
      int[] due = Rows.reseeded(key, rowDrawn(round));
      Check.due("KEY behind drawing " + round, dice.key(), Rows.blocks(due, counter + 2, 1));
    }
  }

  private static int[] rowDrawn(int round) {
    int[] row = Rows.twice(Rows.ofEvents(11));
    for (int pool = 1; pool <= 6; pool++) {
      if (round % (1 << pool) == 0) {
        row = Rows.join(row, Rows.twice(new int[] {200 + pool, 1, pool}));
      }
    }
    return row;
  }

  private static void drawingNeverReachesPool6() {
    Check.sentence("of each pool i with RESEEDS a multiple of 2^i");
    // 38 drawings are what 512 calls have room for beside the looks: far from 64.
    Dice dice = new Dice();
    dice.event(1, 6, 2);
    dice.event(1, 31, 2);
    drawings(dice, 38);
    Check.due("RESEEDS", dice.about(0), 38);
    Check.due("bytes of pool 6", dice.about(12), 3);
    Check.due("bytes of pool 31", dice.about(37), 3);
  }

  private static void drawnPoolIsEmpty() {
    Check.sentence("it is empty then");
    Dice dice = new Dice();
    for (int pool = 1; pool < 32; pool++) {
      dice.event(pool, pool, 3);
    }
    drawings(dice, 1);
    int[] sizes = dice.poolSizes();
    Check.due("bytes of pool 0", sizes[0], 0);
    for (int pool = 1; pool < 32; pool++) {
      Check.due("bytes of pool " + pool + ", not drawn", sizes[pool], 3);
    }
    Check.due("TWICE of pool 0", dice.row(3, 0, 32), Rows.twice(new int[0]));
    dice.event(5, 0, 6);
    Check.due("TWICE of what came since", dice.row(3, 0, 32), Rows.twice(new int[] {5, 1, 6}));
    Check.due("bytes that came since", dice.about(6), 3);
    Check.due("TWICE of pool 1", dice.row(4, 0, 32), Rows.twice(new int[] {1, 1, 3}));
  }

  private static void drawnEmptyPoolCounts() {
    Check.sentence("in order: TWICE of its bytes");
    Dice dice = new Dice();
    drawings(dice, 1);
    int[] key = dice.key();
    int counter = dice.counter();
    drawings(dice, 1);
    int[] row = Rows.join(Rows.twice(Rows.ofEvents(11)), Rows.twice(new int[0]));
    int[] due = Rows.blocks(Rows.reseeded(key, row), counter + 2, 1);
    Check.due("KEY behind drawing 2, pool 1 empty", dice.key(), due);
  }

  private static void timeOfDrawingIsTheClock() {
    Check.sentence("the time of the latest one is the CLOCK");
    Dice dice = Dice.seeded();
    Check.due("drawn at 0", dice.about(2), 0);
    dice.tick(150);
    dice.request(1);
    Check.due("not drawn at 150", dice.about(2), 0);
    dice.events(0, 11);
    dice.request(1);
    Check.due("drawn at 150", dice.about(2), 150);
    dice.tick(Integer.MAX_VALUE - 150);
    dice.events(0, 11);
    dice.request(1);
    Check.due("drawn at the latest CLOCK", dice.about(2), Integer.MAX_VALUE);
    Check.due("RESEEDS", dice.about(0), 3);
  }

  // THE DISK.

  private static void diskIsZerosAtFirst() {
    Check.sentence("bytes 0 .. 128, zeros at first");
    Dice dice = new Dice();
    Check.due("disk", dice.disk(), new int[129]);
    Check.due("byte -1", dice.byteOf(2, -1), -1);
    Check.due("byte 129", dice.byteOf(2, 129), -1);
  }

  /** A disk whose bytes all differ from their neighbours. */
  private static void fillDisk(Dice dice, int mark) {
    for (int i = 1; i <= 128; i++) {
      dice.spoil(i, 100 + i);
    }
    dice.spoil(0, mark);
  }

  private static int[] filledDisk(int mark) {
    int[] disk = new int[129];
    for (int i = 1; i <= 128; i++) {
      disk[i] = 100 + i;
    }
    disk[0] = mark;
    return disk;
  }

  private static void markTellsWhereTheSeedLies() {
    Check.sentence("1 or 2: the seed lies at 1 .. 64, or 65 .. 128; any other: none");
    for (int mark = 0; mark <= 255; mark++) {
      Dice dice = new Dice();
      fillDisk(dice, mark);
      boolean told = mark == 1 || mark == 2;
      Check.due("load() with MARK " + mark, dice.load(), told ? 0 : 1);
      Check.due("SEEDED with MARK " + mark, dice.about(5), told ? 1 : 0);
    }
    // Each byte of the seed that is told changes the KEY, none of the others does.
    for (int mark = 1; mark <= 2; mark++) {
      int[] plain = keyLoaded(mark, 0);
      for (int i = 1; i <= 128; i++) {
        boolean inSeed = mark == 1 ? i <= 64 : i >= 65;
        boolean same = Arrays.equals(keyLoaded(mark, i), plain);
        Check.due("MARK " + mark + ", byte " + i + " in the seed", !same, inSeed);
      }
    }
  }

  /** The KEY that a load gives from a filled disk with one byte changed; none for 0. */
  private static int[] keyLoaded(int mark, int changed) {
    Dice dice = new Dice();
    fillDisk(dice, mark);
    if (changed > 0) {
      dice.spoil(changed, 0);
    }
    dice.load();
    int[] disk = filledDisk(mark);
    if (changed > 0) {
      disk[changed] = 0;
    }
    int[] seed = Rows.part(disk, mark == 1 ? 1 : 65, 64);
    int[] due = Rows.blocks(Rows.reseeded(new int[16], seed), 5, 1);
    int[] key = dice.key();
    Check.due("KEY with MARK " + mark + ", byte " + changed + " changed", key, due);
    return key;
  }

  private static void savingWritesWhereTheMarkIsNot() {
    Check.sentence("at 65 .. 128 if the MARK is 1, otherwise at 1 .. 64; then the MARK");
    for (int mark = 0; mark <= 255; mark++) {
      Dice dice = Dice.seeded();
      fillDisk(dice, mark);
      int[] made = Rows.blocks(dice.key(), 3, 5);
      Check.due("save() with MARK " + mark, dice.save(), 0);
      int[] due = filledDisk(mark == 1 ? 2 : 1);
      System.arraycopy(made, 0, due, mark == 1 ? 65 : 1, 64);
      Check.due("disk behind save() with MARK " + mark, dice.disk(), due);
      Check.due("KEY behind save()", dice.key(), Rows.part(made, 64, 16));
      Check.due("COUNTER behind save()", dice.counter(), 8);
    }
  }

  private static void savingTakesTurns() {
    Check.sentence("byte 0 the MARK");
    Dice dice = Dice.seeded();
    for (int i = 1; i <= 6; i++) {
      int[] key = dice.key();
      int counter = dice.counter();
      dice.save();
      int mark = i % 2 == 1 ? 1 : 2;
      Check.due("MARK behind save " + i, dice.byteOf(2, 0), mark);
      int[] seed = dice.row(2, mark == 1 ? 1 : 65, 4);
      Check.due("seed of save " + i, seed, Rows.part(Rows.blocks(key, counter, 1), 0, 4));
    }
  }

  private static void markIsWrittenLast() {
    Check.sentence("then the MARK, which tells them");
    for (int mark = 0; mark <= 3; mark++) {
      Dice early = Dice.seeded();
      early.spoil(0, mark);
      early.crash(65);
      Check.due("save() cut off at the MARK " + mark, early.save(), 5);
      Check.due("MARK " + mark + " stays", early.byteOf(2, 0), mark);
      Check.due("64 writes", early.about(4), 64);
      Dice late = Dice.seeded();
      late.spoil(0, mark);
      late.crash(66);
      Check.due("save() not cut off, MARK " + mark, late.save(), 0);
      Check.due("MARK " + mark + " is another", late.byteOf(2, 0), mark == 1 ? 2 : 1);
      Check.due("65 writes", late.about(4), 65);
    }
  }

  // A CRASH.

  private static void crashCutsOffTheCall() {
    Check.sentence("that write and all later ones of the call don't happen");
    for (int n = 1; n <= 65; n++) {
      for (int mark = 1; mark <= 2; mark++) {
        Dice dice = Dice.seeded();
        fillDisk(dice, mark);
        int[] made = Rows.blocks(dice.key(), 3, 4);
        dice.crash(n);
        Check.due("save() with a crash at " + n, dice.save(), 5);
        int[] due = filledDisk(mark);
        System.arraycopy(made, 0, due, mark == 1 ? 65 : 1, n - 1);
        Check.due("disk behind a crash at " + n, dice.disk(), due);
        Check.due("writes behind a crash at " + n, dice.about(4), n - 1);
      }
    }
  }

  private static void crashLeavesNothingTold() {
    Check.sentence("nothing is told any more");
    for (int n : new int[] {1, 2, 64, 65}) {
      Dice dice = Dice.seeded();
      dice.spoil(0, 1);
      dice.crash(n);
      dice.save();
      Check.due("told behind a crash at " + n, dice.about(3), 0);
      for (int i = 1; i <= 3; i++) {
        Check.due("load() " + i + " behind a crash at " + n, dice.load(), 0);
      }
      Check.due("writes behind them", dice.about(4), n - 1 + 3 * 65);
      Check.due("told behind them", dice.about(3), 0);
    }
  }

  private static void crashSetsBackTheGenerator() {
    Check.sentence("the generator is as at first (the disk is not)");
    int[] first = new Dice().generator();
    for (int n : new int[] {1, 2, 64, 65}) {
      Dice saved = Dice.busy();
      saved.crash(n);
      saved.save();
      Check.due("save() with a crash at " + n, saved.generator(), first);
      Check.due("MARK behind save() with a crash at " + n, saved.byteOf(2, 0), 2);
      Dice loaded = Dice.busy();
      loaded.crash(n);
      loaded.load();
      Check.due("load() with a crash at " + n, loaded.generator(), first);
      Check.due("writes behind load() with a crash at " + n, loaded.about(4), 129 + n);
      sameAsNew("behind a crash at " + n, saved);
    }
    Dice whole = Dice.busy();
    whole.crash(66);
    whole.save();
    Check.due("COUNTER with the crash still to come", whole.counter() > 0, true);
    Check.due("the crash still to come", whole.about(3), 1);
  }

  /** What is hidden of the state, such as bytes that a pool had, does not come back. */
  private static void sameAsNew(String when, Dice dice) {
    Dice other = new Dice();
    for (Dice each : new Dice[] {dice, other}) {
      each.events(0, 11);
      each.event(1, 1, 1);
      each.request(32);
      each.events(0, 11);
      each.tick(100);
      each.request(16);
    }
    Check.due(when + ": RESEEDS", dice.about(0), 2);
    Check.due(when + ": out", dice.given(16), other.given(16));
    Check.due(when + ": KEY", dice.key(), other.key());
  }
}
