import java.util.function.Consumer;

/** Promises 1 to 12: each sentence that names a boundary, on both sides of it. */
final class PromisesTest {
  private static final int LEAST = Integer.MIN_VALUE;
  private static final int MOST = Integer.MAX_VALUE;
  private static final int[] NO_BYTES = {LEAST, -256, -1, 256, 257, 511, 65536, MOST};
  private static final int[] NO_POOLS = {LEAST, -32, -1, 32, 33, 64, MOST};
  private static final int[] NO_COUNTS = {LEAST, -256, -1, 0, 257, 258, 65537, MOST};
  private static final int[] NO_PLACES = {LEAST, -129, -1, 129, 130, 256, MOST};

  private PromisesTest() {}

  public static void main(String[] args) {
    promises1And2();
    promise3();
    promise4();
    promise5();
    promise6();
    promise7();
    promise8();
    promise9();
    promise10();
    promise11();
    promise12();
    Check.end();
  }

  private static void promises1And2() {
    newObjectIsAsAtFirst();
    newObjectHasNoCrashTold();
    newObjectSharesNothing();
    initSetsBackTheGenerator();
    initTakesTheCrashBack();
    initLeavesTheDisk();
  }

  private static void promise3() {
    eventOfSources();
    eventOfPools();
    eventOfBytes();
    eventComesBehind();
    wrongEventBringsNothing();
  }

  private static void promise4() {
    tickAbove0();
    tickUpToTheMost();
    wrongTickDoesNothing();
  }

  private static void promise5() {
    requestOf1To256();
    wrongRequestDoesNothing();
    drawsFrom32BytesOn();
    drawsIfThereWasNoneYet();
    draws100Behind();
    waitsFromTheDrawingOn();
    requestIsRefusedUnseeded();
    requestSeedsByItsDrawing();
  }

  private static void promise6() {
    outOfEachByte();
    outOfTheLatestThatGave();
    outOfNone();
    outBehindInit();
    outBehindCrash();
  }

  private static void promise7() {
    saveSeededOrNot();
    saveUnseededDoesNothing();
    saveWithCrash();
  }

  private static void promise8() {
    loadWithSeedOrNone();
    loadOfNoneDoesNothing();
    loadReseeds();
    loadWithCrash();
  }

  private static void promise9() {
    crashWithTheNthWrite();
    crashFromNowOn();
    crashBelow1();
    crashAtTheMost();
    crashCountsWritesAlone();
  }

  private static void promise10() {
    byteOfEachPart();
    byteOfNoPart();
    byteOfWhatAPoolHasNow();
  }

  private static void promise11() {
    spoilEachByte();
    spoilWithEachByte();
    wrongSpoilDoesNothing();
    spoilIsNoWrite();
  }

  private static void promise12() {
    aboutReseeds();
    aboutClock();
    aboutLatestDrawing();
    aboutCrash();
    aboutWrites();
    aboutSeeded();
    aboutPools();
    aboutOthers();
  }

  /** The call leaves a busy object as one is that had no such call. */
  private static void nothingDone(String what, Consumer<Dice> call) {
    Dice called = Dice.busy();
    call.accept(called);
    Check.due(what + ": state", called.all(), Dice.busy().all());
  }

  // Promise 1: a new object.

  private static void dueAtFirst(String when, Dice dice) {
    Check.due(when + ": KEY", dice.key(), new int[16]);
    Check.due(when + ": COUNTER", dice.counterRow(), new int[16]);
    int[] numbers = {0, 0, -1, 0, 0, 0};
    for (int what = 0; what < numbers.length; what++) {
      Check.due(when + ": about(" + what + ")", dice.about(what), numbers[what]);
    }
    Check.due(when + ": bytes of the pools", dice.poolSizes(), new int[32]);
    Check.due(when + ": TWICE of each pool", dice.poolMarks(), Rows.twice(new int[0]));
    Check.due(when + ": disk", dice.disk(), new int[129]);
    Check.due(when + ": out(0)", dice.out(0), -1);
  }

  private static void newObjectIsAsAtFirst() {
    Check.sentence("As told at first; no crash is told.");
    Dice dice = new Dice();
    dueAtFirst("new", dice);
    Check.due("request(1)", dice.request(1), -2);
    Check.due("save()", dice.save(), -2);
    Check.due("load()", dice.load(), 1);
    Check.due("NONE", PoolDice.NONE, -1);
  }

  private static void newObjectHasNoCrashTold() {
    Check.sentence("no crash is told");
    Dice dice = new Dice();
    dice.spoil(0, 1);
    for (int i = 1; i <= 20; i++) {
      Check.due("load() " + i, dice.load(), 0);
    }
    Check.due("writes", dice.about(4), 20 * 65);
    Check.due("told", dice.about(3), 0);
  }

  private static void newObjectSharesNothing() {
    Check.sentence("As told at first");
    Dice used = Dice.busy();
    Dice made = new Dice();
    used.save();
    dueAtFirst("new beside a used one", made);
    Dice crashed = Dice.seeded();
    made.crash(1);
    Check.due("save() beside one with a crash", crashed.save(), 0);
  }

  // Promise 2: init.

  private static void initSetsBackTheGenerator() {
    Check.sentence("The generator is as at first, and no crash is told; the disk stays.");
    int[] first = new Dice().generator();
    Dice fresh = new Dice();
    fresh.init();
    Check.due("init() of a new one", fresh.generator(), first);
    Dice used = Dice.busy();
    used.init();
    Check.due("init() of a used one", used.generator(), first);
    Dice other = new Dice();
    for (Dice each : new Dice[] {used, other}) {
      each.events(0, 11);
      each.event(1, 1, 1);
      Check.due("request(32) behind it", each.request(32), 32);
      each.events(0, 11);
      each.tick(100);
      each.request(16);
    }
    Check.due("drawings behind it", used.about(0), 2);
    Check.due("bytes behind it", used.given(16), other.given(16));
    Check.due("KEY behind it", used.key(), other.key());
  }

  private static void initTakesTheCrashBack() {
    Check.sentence("and no crash is told");
    Dice dice = new Dice();
    dice.spoil(0, 1);
    dice.crash(1);
    dice.init();
    Check.due("told", dice.about(3), 0);
    Check.due("load() with a crash taken back", dice.load(), 0);
    dice.crash(66);
    dice.save();
    dice.init();
    Check.due("told, one write before it", dice.about(3), 0);
    Check.due("load() one write before it", dice.load(), 0);
    Check.due("writes", dice.about(4), 3 * 65);
  }

  private static void initLeavesTheDisk() {
    Check.sentence("the disk stays");
    Dice dice = Dice.busy();
    dice.spoil(128, 77);
    int[] disk = dice.disk();
    dice.init();
    Check.due("disk", dice.disk(), disk);
    Check.due("writes that happened", dice.about(4), 130);
    Check.due("load() of what stayed", dice.load(), 0);
  }

  // Promise 3: event.

  private static void eventOfSources() {
    Check.sentence("whether source is 0 .. 255, pool 0 .. 31, b 0 .. 255");
    Dice dice = new Dice();
    for (int source = 0; source <= 255; source++) {
      Check.due("event(" + source + ", 0, 0)", dice.event(source, 0, 0), true);
    }
    Check.due("bytes of pool 0", dice.about(6), 3 * 256);
    for (int wrong : NO_BYTES) {
      Check.due("event(" + wrong + ", 0, 0)", dice.event(wrong, 0, 0), false);
    }
    Check.due("bytes of pool 0 then", dice.about(6), 3 * 256);
  }

  private static void eventOfPools() {
    Check.sentence("pool 0 .. 31");
    Dice dice = new Dice();
    int[] due = new int[32];
    for (int pool = 0; pool <= 31; pool++) {
      Check.due("event(0, " + pool + ", 0)", dice.event(0, pool, 0), true);
      due[pool] = 3;
    }
    for (int wrong : NO_POOLS) {
      Check.due("event(0, " + wrong + ", 0)", dice.event(0, wrong, 0), false);
    }
    Check.due("bytes of the pools", dice.poolSizes(), due);
  }

  private static void eventOfBytes() {
    Check.sentence("b 0 .. 255");
    Dice dice = new Dice();
    for (int b = 0; b <= 255; b++) {
      Check.due("event(0, 31, " + b + ")", dice.event(0, 31, b), true);
    }
    Check.due("bytes of pool 31", dice.about(37), 3 * 256);
    for (int wrong : NO_BYTES) {
      Check.due("event(0, 31, " + wrong + ")", dice.event(0, 31, wrong), false);
    }
    Check.due("bytes of pool 31 then", dice.about(37), 3 * 256);
  }

  private static void eventComesBehind() {
    Check.sentence("Source, 1 and the byte come behind the bytes of a pool");
    Dice dice = new Dice();
    dice.event(0, 4, 255);
    dice.event(9, 5, 9);
    dice.event(255, 4, 0);
    int[] due = {0, 1, 255, 255, 1, 0};
    Check.due("TWICE of two events", dice.row(7, 0, 32), Rows.twice(due));
    Check.due("TWICE of one event", dice.row(8, 0, 32), Rows.twice(new int[] {9, 1, 9}));
    Check.due("TWICE of none", dice.row(9, 0, 32), Rows.twice(new int[0]));
    Check.due("an event does not seed", dice.about(5), 0);
  }

  private static void wrongEventBringsNothing() {
    Check.sentence("(nothing comes otherwise)");
    nothingDone("wrong events", dice -> {
      for (int wrong : NO_BYTES) {
        dice.event(wrong, 0, 0);
        dice.event(0, 0, wrong);
        dice.event(wrong, 31, wrong);
      }
      for (int wrong : NO_POOLS) {
        dice.event(0, wrong, 0);
        dice.event(256, wrong, 256);
      }
    });
  }

  // Promise 4: tick.

  private static void tickAbove0() {
    Check.sentence("if ms is above 0 and it is not above 2147483647 by that: what it is");
    Dice dice = new Dice();
    Check.due("tick(0)", dice.tick(0), 0);
    Check.due("tick(-1)", dice.tick(-1), 0);
    Check.due("tick(1)", dice.tick(1), 1);
    Check.due("tick(2)", dice.tick(2), 3);
    Check.due("tick(0) at 3", dice.tick(0), 3);
    Check.due("tick(-1) at 3", dice.tick(-1), 3);
    Check.due("tick(-3) at 3", dice.tick(-3), 3);
    Check.due("tick(least) at 3", dice.tick(LEAST), 3);
    Check.due("CLOCK", dice.about(1), 3);
  }

  private static void tickUpToTheMost() {
    Check.sentence("it is not above 2147483647 by that");
    Dice atOnce = new Dice();
    Check.due("tick(most) at 0", atOnce.tick(MOST), MOST);
    Check.due("tick(1) at the most", atOnce.tick(1), MOST);
    Check.due("tick(most) at the most", atOnce.tick(MOST), MOST);
    Check.due("tick(0) at the most", atOnce.tick(0), MOST);
    Check.due("tick(-1) at the most", atOnce.tick(-1), MOST);
    Dice bySteps = new Dice();
    bySteps.tick(5);
    Check.due("tick(most) at 5", bySteps.tick(MOST), 5);
    Check.due("tick(most - 4) at 5", bySteps.tick(MOST - 4), 5);
    Check.due("CLOCK", bySteps.about(1), 5);
    Check.due("tick(most - 6) at 5", bySteps.tick(MOST - 6), MOST - 1);
    Check.due("tick(2) one before the most", bySteps.tick(2), MOST - 1);
    Check.due("tick(1) one before the most", bySteps.tick(1), MOST);
    Check.due("CLOCK at the end", bySteps.about(1), MOST);
    Dice exact = new Dice();
    exact.tick(5);
    Check.due("tick(most - 5) at 5", exact.tick(MOST - 5), MOST);
  }

  private static void wrongTickDoesNothing() {
    Check.sentence("The CLOCK is so much later, if ms is above 0");
    nothingDone("wrong ticks", dice -> {
      for (int wrong : new int[] {LEAST, -1234, -1, 0, MOST - 1233, MOST}) {
        Check.due("tick(" + wrong + ") at 1234", dice.tick(wrong), 1234);
      }
    });
  }

  // Promise 5: request.

  private static void requestOf1To256() {
    Check.sentence("NONE if n is not 1 .. 256 (nothing is done)");
    Dice dice = Dice.seeded();
    for (int n = 1; n <= 256; n++) {
      Check.due("request(" + n + ")", dice.request(n), n);
    }
    for (int wrong : NO_COUNTS) {
      Check.due("request(" + wrong + ")", dice.request(wrong), -1);
      Check.due("request(" + wrong + ") of a new one", new Dice().request(wrong), -1);
    }
  }

  private static void wrongRequestDoesNothing() {
    Check.sentence("(nothing is done)");
    nothingDone("wrong requests", dice -> {
      for (int wrong : NO_COUNTS) {
        Check.due("request(" + wrong + ") with a drawing due", dice.request(wrong), -1);
      }
    });
    Dice dice = Dice.busy();
    int reseeds = dice.about(0);
    dice.request(1);
    Check.due("a right one draws there", dice.about(0), reseeds + 1);
  }

  private static void drawsFrom32BytesOn() {
    Check.sentence("first DRAWING, if pool 0 has 32 bytes or more");
    Dice dice = new Dice();
    dice.events(0, 10);
    for (int pool = 1; pool < 32; pool++) {
      dice.event(1, pool, 1);
    }
    dice.events(1, 20);
    Check.due("request(1) with 30 bytes", dice.request(1), -2);
    Check.due("RESEEDS with 30 bytes", dice.about(0), 0);
    Check.due("30 bytes stay", dice.about(6), 30);
    dice.event(1, 0, 1);
    Check.due("request(1) with 33 bytes", dice.request(1), 1);
    Check.due("RESEEDS with 33 bytes", dice.about(0), 1);
    dice.tick(1000);
    dice.events(0, 10);
    Check.due("request(1) with 30 bytes, once SEEDED", dice.request(1), 1);
    Check.due("RESEEDS with 30 bytes, once SEEDED", dice.about(0), 1);
    dice.event(1, 0, 1);
    dice.request(1);
    Check.due("RESEEDS with 33 bytes, once SEEDED", dice.about(0), 2);
  }

  private static void drawsIfThereWasNoneYet() {
    Check.sentence("there was none yet");
    Dice loaded = new Dice();
    loaded.spoil(0, 1);
    loaded.load();
    loaded.request(1);
    loaded.events(0, 11);
    loaded.request(1);
    Check.due("SEEDED by a load: RESEEDS", loaded.about(0), 1);
    loaded.events(0, 11);
    loaded.request(1);
    Check.due("drawn at 0 is not none: RESEEDS", loaded.about(0), 1);
    Check.due("drawn at 0 is not none: bytes stay", loaded.about(6), 33);
    loaded.init();
    loaded.events(0, 11);
    loaded.request(1);
    Check.due("none yet behind init(): RESEEDS", loaded.about(0), 1);
    loaded.crash(1);
    loaded.save();
    loaded.events(0, 11);
    loaded.request(1);
    Check.due("none yet behind a crash: RESEEDS", loaded.about(0), 1);
  }

  private static void draws100Behind() {
    Check.sentence("or it was 100 or more before");
    for (int start : new int[] {0, 1, 99, 100, 5000, MOST - 101}) {
      for (int wait : new int[] {1, 50, 98, 99, 100, 101}) {
        Dice dice = new Dice();
        dice.tick(start);
        dice.events(0, 11);
        dice.request(1);
        dice.events(0, 11);
        dice.tick(wait);
        dice.request(1);
        String when = wait + " behind a drawing at " + start;
        Check.due(when + ": RESEEDS", dice.about(0), wait >= 100 ? 2 : 1);
        Check.due(when + ": bytes of pool 0", dice.about(6), wait >= 100 ? 0 : 33);
        Check.due(when + ": its time", dice.about(2), wait >= 100 ? start + wait : start);
      }
    }
    Dice late = Dice.seeded();
    late.events(0, 11);
    late.tick(MOST);
    late.request(1);
    Check.due("as late as can be: RESEEDS", late.about(0), 2);
  }

  /** A request without a drawing, a load and a refused tick don't change when was drawn. */
  private static void waitsFromTheDrawingOn() {
    Check.sentence("or it was 100 or more before");
    Dice dice = Dice.seeded();
    dice.tick(60);
    dice.request(1);
    dice.save();
    dice.load();
    dice.events(0, 11);
    dice.tick(39);
    dice.tick(MOST);
    dice.tick(-1);
    dice.request(1);
    Check.due("at 99: RESEEDS", dice.about(0), 1);
    dice.tick(1);
    dice.request(1);
    Check.due("at 100: RESEEDS", dice.about(0), 2);
    dice.events(0, 11);
    dice.tick(99);
    dice.request(1);
    Check.due("at 199: RESEEDS", dice.about(0), 2);
    dice.tick(1);
    dice.request(1);
    Check.due("at 200: RESEEDS", dice.about(0), 3);
  }

  private static void requestIsRefusedUnseeded() {
    Check.sentence("-2 if it is not SEEDED behind the drawing");
    for (int n : new int[] {1, 16, 256}) {
      Dice dice = new Dice();
      dice.events(0, 10);
      dice.tick(500);
      Check.due("request(" + n + ")", dice.request(n), -2);
      Dice same = new Dice();
      same.events(0, 10);
      same.tick(500);
      Check.due("state behind request(" + n + ")", dice.all(), same.all());
    }
    Dice dice = Dice.busy();
    dice.init();
    Check.due("request(1) behind init()", dice.request(1), -2);
    Dice crashed = Dice.busy();
    crashed.crash(1);
    crashed.save();
    Check.due("request(1) behind a crash", crashed.request(1), -2);
  }

  private static void requestSeedsByItsDrawing() {
    Check.sentence("if it is not SEEDED behind the drawing");
    Dice drawn = new Dice();
    drawn.events(0, 11);
    Check.due("SEEDED before", drawn.about(5), 0);
    Check.due("request(256) that draws", drawn.request(256), 256);
    Check.due("SEEDED behind", drawn.about(5), 1);
    Dice loaded = new Dice();
    loaded.spoil(0, 2);
    loaded.load();
    Check.due("request(256) behind a load", loaded.request(256), 256);
    Check.due("RESEEDS, none drawn", loaded.about(0), 0);
  }

  // Promise 6: out.

  private static void outOfEachByte() {
    Check.sentence("Byte i of the latest request() that gave some; NONE if there is none");
    for (int n : new int[] {1, 2, 15, 16, 17, 255, 256}) {
      Dice dice = Dice.seeded();
      int[] made = Rows.blocks(dice.key(), 3, 16);
      dice.request(n);
      Check.due("out of request(" + n + ")", dice.given(n), Rows.part(made, 0, n));
      for (int wrong : new int[] {LEAST, -256, -1, n, n + 1, 256, 257, MOST}) {
        Check.due("out(" + wrong + ") of request(" + n + ")", dice.out(wrong), -1);
      }
    }
  }

  private static void outOfTheLatestThatGave() {
    Check.sentence("the latest request() that gave some");
    Dice dice = Dice.seeded();
    dice.request(40);
    int[] given = dice.given(41);
    for (int wrong : NO_COUNTS) {
      dice.request(wrong);
    }
    dice.event(1, 1, 1);
    dice.tick(5);
    dice.save();
    dice.load();
    dice.spoil(0, 0);
    dice.load();
    dice.crash(1);
    Check.due("out behind other calls", dice.given(41), given);
    int[] key = dice.key();
    int counter = dice.counter();
    dice.request(3);
    int[] made = Rows.blocks(key, counter, 1);
    Check.due("out of a shorter one", dice.given(3), Rows.part(made, 0, 3));
    Check.due("out(3) of a shorter one", dice.out(3), -1);
    Check.due("out(39) of a shorter one", dice.out(39), -1);
    dice.request(41);
    Check.due("out(40) of a longer one", dice.out(40) >= 0, true);
    Check.due("out(41) of a longer one", dice.out(41), -1);
  }

  private static void outOfNone() {
    Check.sentence("NONE if there is none");
    Dice dice = new Dice();
    Check.due("out(0) of a new one", dice.out(0), -1);
    dice.request(4);
    Check.due("out(0) behind -2", dice.out(0), -1);
    dice.request(0);
    Check.due("out(0) behind NONE", dice.out(0), -1);
    dice.spoil(0, 1);
    dice.load();
    dice.save();
    Check.due("out(0) behind load() and save()", dice.out(0), -1);
    dice.request(1);
    Check.due("out(0) behind request(1)", dice.out(0) >= 0, true);
  }

  private static void outBehindInit() {
    Check.sentence("(none behind init() or a crash)");
    Dice dice = Dice.seeded();
    dice.request(256);
    Check.due("out(255) before init()", dice.out(255) >= 0, true);
    dice.init();
    Check.due("out(0) behind init()", dice.out(0), -1);
    Check.due("out(255) behind init()", dice.out(255), -1);
    dice.request(256);
    Check.due("out(0) behind init() and -2", dice.out(0), -1);
    dice.events(0, 11);
    dice.request(2);
    Check.due("out(1) of the next one", dice.out(1) >= 0, true);
    Check.due("out(2) of the next one", dice.out(2), -1);
  }

  private static void outBehindCrash() {
    Check.sentence("(none behind init() or a crash)");
    for (int n : new int[] {1, 64, 65}) {
      Dice saved = Dice.seeded();
      Dice loaded = Dice.seeded();
      for (Dice each : new Dice[] {saved, loaded}) {
        each.request(256);
        each.spoil(0, 1);
        each.crash(n);
        Check.due("out(255) with a crash told", each.out(255) >= 0, true);
      }
      saved.save();
      loaded.load();
      for (Dice each : new Dice[] {saved, loaded}) {
        Check.due("out(0) behind a crash", each.out(0), -1);
        Check.due("out(255) behind a crash", each.out(255), -1);
        each.load();
        Check.due("out(0) behind a crash and a load", each.out(0), -1);
        each.request(1);
        Check.due("out(0) of the next one", each.out(0) >= 0, true);
      }
    }
    Dice missed = Dice.seeded();
    missed.crash(66);
    missed.save();
    Check.due("out(0), the crash still to come", missed.out(0) >= 0, true);
  }

  // Promise 7: save.

  private static void saveSeededOrNot() {
    Check.sentence("SAVING: 0; -2 if it is not SEEDED; 5 if the crash came.");
    Check.due("save() of a new one", new Dice().save(), -2);
    Dice dice = new Dice();
    dice.events(0, 11);
    Check.due("save() before the drawing", dice.save(), -2);
    dice.request(1);
    Check.due("save() behind the drawing", dice.save(), 0);
    dice.init();
    Check.due("save() behind init()", dice.save(), -2);
    dice.load();
    Check.due("save() behind load()", dice.save(), 0);
    dice.crash(1);
    dice.save();
    Check.due("save() behind a crash", dice.save(), -2);
  }

  private static void saveUnseededDoesNothing() {
    Check.sentence("-2 if it is not SEEDED");
    Dice dice = Dice.busy();
    Dice same = Dice.busy();
    for (Dice each : new Dice[] {dice, same}) {
      each.init();
      each.events(0, 11);
      each.tick(9);
      each.crash(1);
    }
    Check.due("save() not SEEDED, a crash told", dice.save(), -2);
    Check.due("the crash is still told", dice.about(3), 1);
    Check.due("state behind it", dice.all(), same.all());
  }

  private static void saveWithCrash() {
    Check.sentence("5 if the crash came");
    for (int n = 1; n <= 70; n++) {
      Dice dice = Dice.seeded();
      dice.crash(n);
      boolean comes = n <= 65;
      Check.due("save() with a crash at " + n, dice.save(), comes ? 5 : 0);
      Check.due("SEEDED behind it", dice.about(5), comes ? 0 : 1);
      Check.due("MARK behind it", dice.byteOf(2, 0), comes ? 0 : 1);
      Check.due("told behind it", dice.about(3), comes ? 0 : n - 65);
    }
  }

  // Promise 8: load.

  private static void loadWithSeedOrNone() {
    Check.sentence("RESEEDING with it, and SAVING: 0; 1 if there is none; 5 if the crash came.");
    Check.due("load() of a new one", new Dice().load(), 1);
    for (int mark = 0; mark <= 255; mark++) {
      boolean told = mark == 1 || mark == 2;
      Dice fresh = new Dice();
      fresh.spoil(0, mark);
      Check.due("load() with MARK " + mark, fresh.load(), told ? 0 : 1);
      Check.due("writes of it", fresh.about(4), told ? 65 : 0);
      int markThen = told ? 3 - mark : mark;
      Check.due("MARK behind it", fresh.byteOf(2, 0), markThen);
      Dice seeded = Dice.seeded();
      seeded.spoil(0, mark);
      Check.due("load() once SEEDED with MARK " + mark, seeded.load(), told ? 0 : 1);
      Check.due("COUNTER behind it", seeded.counter(), told ? 9 : 3);
    }
  }

  private static void loadOfNoneDoesNothing() {
    Check.sentence("1 if there is none");
    for (int mark : new int[] {0, 3, 255}) {
      Dice dice = Dice.busy();
      Dice same = Dice.busy();
      dice.spoil(0, mark);
      same.spoil(0, mark);
      dice.crash(1);
      same.crash(1);
      Check.due("load() with MARK " + mark + ", a crash told", dice.load(), 1);
      Check.due("state behind it", dice.all(), same.all());
    }
  }

  private static void loadReseeds() {
    Check.sentence("The seed that the MARK tells: RESEEDING with it, and SAVING: 0");
    for (int mark = 1; mark <= 2; mark++) {
      Dice dice = Dice.seeded();
      dice.save();
      dice.save();
      dice.spoil(0, mark);
      int from = mark == 1 ? 1 : 65;
      int[] key = Rows.reseeded(dice.key(), dice.row(2, from, 64));
      int[] made = Rows.blocks(key, dice.counter() + 1, 5);
      dice.load();
      int[] saved = Rows.part(made, 0, 64);
      Check.due("the new seed, MARK " + mark, dice.row(2, 66 - from, 64), saved);
      Check.due("KEY, MARK " + mark, dice.key(), Rows.part(made, 64, 16));
      Check.due("RESEEDS", dice.about(0), 1);
      Check.due("latest drawing", dice.about(2), 0);
    }
  }

  private static void loadWithCrash() {
    Check.sentence("5 if the crash came");
    for (int n = 1; n <= 70; n++) {
      Dice dice = Dice.seeded();
      dice.save();
      int[] seed = dice.row(2, 0, 65);
      dice.crash(n);
      boolean comes = n <= 65;
      Check.due("load() with a crash at " + n, dice.load(), comes ? 5 : 0);
      Check.due("SEEDED behind it", dice.about(5), comes ? 0 : 1);
      Check.due("writes behind it", dice.about(4), comes ? 64 + n : 130);
      Check.due("told behind it", dice.about(3), comes ? 0 : n - 65);
      if (comes) {
        Check.due("MARK and seed behind it", dice.row(2, 0, 65), seed);
        Check.due("load() behind it", dice.load(), 0);
      }
    }
  }

  // Promise 9: crash.

  private static void crashWithTheNthWrite() {
    Check.sentence("A CRASH is told to come with the n-th write from now on; none with n below 1.");
    for (int n : new int[] {1, 2, 64, 65, 66, 67, 129, 130, 131, 195, 196}) {
      Dice dice = Dice.seeded();
      dice.crash(n);
      int whole = (n - 1) / 65;
      for (int i = 1; i <= whole; i++) {
        Check.due("save() " + i + " before a crash at " + n, dice.save(), 0);
        Check.due("writes till it", dice.about(3), n - 65 * i);
      }
      Check.due("save() with a crash at " + n, dice.save(), 5);
      Check.due("writes before it", dice.about(4), n - 1);
    }
  }

  private static void crashFromNowOn() {
    Check.sentence("with the n-th write from now on");
    Dice dice = Dice.seeded();
    dice.save();
    dice.crash(66);
    Check.due("save() behind 65 writes and crash(66)", dice.save(), 0);
    dice.crash(66);
    Check.due("crash(66) once more", dice.about(3), 66);
    Check.due("save() behind it", dice.save(), 0);
    dice.crash(1);
    dice.crash(100);
    Check.due("crash(100) takes the place of crash(1)", dice.save(), 0);
    dice.crash(100);
    dice.crash(1);
    Check.due("crash(1) takes the place of crash(100)", dice.save(), 5);
  }

  private static void crashBelow1() {
    Check.sentence("none with n below 1");
    for (int none : new int[] {0, -1, -65, LEAST}) {
      Dice dice = Dice.seeded();
      dice.crash(none);
      Check.due("told by crash(" + none + ")", dice.about(3), 0);
      Check.due("save() behind crash(" + none + ")", dice.save(), 0);
      dice.crash(1);
      dice.crash(none);
      Check.due("told by crash(1) and crash(" + none + ")", dice.about(3), 0);
      for (int i = 0; i < 4; i++) {
        Check.due("save() behind crash(1) and crash(" + none + ")", dice.save(), 0);
        Check.due("told then", dice.about(3), 0);
      }
    }
    Dice dice = Dice.seeded();
    dice.crash(1);
    Check.due("told by crash(1)", dice.about(3), 1);
    Check.due("save() behind crash(1)", dice.save(), 5);
  }

  private static void crashAtTheMost() {
    Check.sentence("A CRASH is told to come with the n-th write");
    Dice dice = Dice.seeded();
    dice.crash(MOST);
    Check.due("told by crash(most)", dice.about(3), MOST);
    Check.due("save() behind it", dice.save(), 0);
    Check.due("65 writes later", dice.about(3), MOST - 65);
  }

  /** Calls that write nothing bring a crash no nearer. */
  private static void crashCountsWritesAlone() {
    Check.sentence("with the n-th write from now on");
    for (int n : new int[] {1, 2, 65}) {
      Dice dice = new Dice();
      dice.crash(n);
      dice.save();
      dice.load();
      dice.events(0, 11);
      dice.tick(100);
      dice.request(256);
      dice.spoil(128, 1);
      dice.load();
      Check.due("told behind calls that write nothing", dice.about(3), n);
      Check.due("SEEDED with a crash told", dice.about(5), 1);
      Check.due("save() with a crash at " + n, dice.save(), 5);
      Check.due("writes before it", dice.about(4), n - 1);
    }
  }

  // Promise 10: byteOf.

  private static void byteOfEachPart() {
    Check.sentence("or the COUNTER (1), 0 .. 15, of the disk (2), 0 .. 128, of TWICE");
    for (int part = 0; part <= 34; part++) {
      Dice dice = Dice.busy();
      int count = part == 2 ? 129 : part < 2 ? 16 : 32;
      for (int i = 0; i < count; i++) {
        int b = dice.byteOf(part, i);
        Check.due("byteOf(" + part + ", " + i + ") is a byte", b >= 0 && b <= 255, true);
      }
      int[] places = {LEAST, LEAST + 1, -count, -1, count, count + 1, 256, MOST - 1, MOST};
      for (int wrong : places) {
        Check.due("byteOf(" + part + ", " + wrong + ")", dice.byteOf(part, wrong), -1);
      }
    }
  }

  private static void byteOfNoPart() {
    Check.sentence("NONE if there is none");
    Dice dice = Dice.busy();
    int[] parts = {LEAST, LEAST + 1, LEAST + 2, LEAST + 3, -35, -2, -1, 35, 36, 67, MOST - 1, MOST};
    for (int wrong : parts) {
      for (int i : new int[] {-1, 0, 15, 31, 128}) {
        Check.due("byteOf(" + wrong + ", " + i + ")", dice.byteOf(wrong, i), -1);
      }
    }
  }

  private static void byteOfWhatAPoolHasNow() {
    Check.sentence("of TWICE of what a pool has now (3 + pool), 0 .. 31");
    Dice dice = new Dice();
    for (int pool = 0; pool < 32; pool++) {
      int[] none = Rows.twice(new int[0]);
      int[] due = Rows.twice(new int[] {pool, 1, 100 + pool});
      Check.due("pool " + pool + ", byte 0, empty", dice.byteOf(3 + pool, 0), none[0]);
      dice.event(pool, pool, 100 + pool);
      for (int i : new int[] {0, 15, 16, 31}) {
        Check.due("pool " + pool + ", byte " + i, dice.byteOf(3 + pool, i), due[i]);
        Check.due("pool " + pool + ", byte " + i + " again", dice.byteOf(3 + pool, i), due[i]);
      }
      Check.due("pool " + pool + " keeps its bytes", dice.about(6 + pool), 3);
    }
    nothingDone("byteOf() changes nothing", looked -> {
      for (int part = -1; part <= 35; part++) {
        looked.byteOf(part, 0);
      }
    });
  }

  // Promise 11: spoil.

  private static void spoilEachByte() {
    Check.sentence("Byte i of the disk becomes another one: whether there is such");
    Dice dice = new Dice();
    int[] due = new int[129];
    for (int i = 0; i <= 128; i++) {
      Check.due("spoil(" + i + ", b)", dice.spoil(i, 255 - i), true);
      due[i] = 255 - i;
    }
    for (int wrong : NO_PLACES) {
      Check.due("spoil(" + wrong + ", 7)", dice.spoil(wrong, 7), false);
    }
    Check.due("disk", dice.disk(), due);
  }

  private static void spoilWithEachByte() {
    Check.sentence("and b is 0 .. 255");
    Dice dice = new Dice();
    for (int b = 0; b <= 255; b++) {
      Check.due("spoil(128, " + b + ")", dice.spoil(128, b), true);
    }
    Check.due("byte 128", dice.byteOf(2, 128), 255);
    for (int wrong : NO_BYTES) {
      Check.due("spoil(128, " + wrong + ")", dice.spoil(128, wrong), false);
      Check.due("spoil(0, " + wrong + ")", dice.spoil(0, wrong), false);
      Check.due("byte 128 behind it", dice.byteOf(2, 128), 255);
    }
    Check.due("spoil(128, 0)", dice.spoil(128, 0), true);
    Check.due("byte 128 at last", dice.byteOf(2, 128), 0);
    Check.due("byte 0", dice.byteOf(2, 0), 0);
  }

  private static void wrongSpoilDoesNothing() {
    Check.sentence("whether there is such, and b is 0 .. 255");
    nothingDone("wrong spoils", dice -> {
      for (int wrong : NO_PLACES) {
        dice.spoil(wrong, 9);
        dice.spoil(wrong, -1);
        dice.spoil(wrong, 256);
      }
      for (int wrong : NO_BYTES) {
        dice.spoil(0, wrong);
        dice.spoil(1, wrong);
        dice.spoil(128, wrong);
      }
    });
  }

  private static void spoilIsNoWrite() {
    Check.sentence("(no write of those that are counted)");
    for (int n : new int[] {1, 2, 60}) {
      Dice dice = Dice.seeded();
      dice.crash(n);
      for (int i = 0; i <= 128; i++) {
        dice.spoil(i, i);
      }
      Check.due("writes", dice.about(4), 0);
      Check.due("writes till the crash at " + n, dice.about(3), n);
      Check.due("SEEDED still", dice.about(5), 1);
      Check.due("save() with the crash at " + n, dice.save(), 5);
      Check.due("writes behind it", dice.about(4), n - 1);
    }
  }

  // Promise 12: about.

  private static void aboutReseeds() {
    Check.sentence("RESEEDS (what = 0)");
    Dice dice = new Dice();
    Check.due("at first", dice.about(0), 0);
    dice.spoil(0, 1);
    dice.load();
    Check.due("behind a load", dice.about(0), 0);
    dice.events(0, 11);
    Check.due("before the drawing", dice.about(0), 0);
    dice.request(1);
    Check.due("behind the drawing", dice.about(0), 1);
    dice.request(1);
    Check.due("behind a request without one", dice.about(0), 1);
    dice.init();
    Check.due("behind init()", dice.about(0), 0);
  }

  private static void aboutClock() {
    Check.sentence("the CLOCK (1)");
    Dice dice = new Dice();
    Check.due("at first", dice.about(1), 0);
    dice.tick(MOST);
    Check.due("at the most", dice.about(1), MOST);
    dice.init();
    Check.due("behind init()", dice.about(1), 0);
  }

  private static void aboutLatestDrawing() {
    Check.sentence("when was drawn latest (2; NONE if never)");
    Dice dice = new Dice();
    Check.due("never", dice.about(2), -1);
    dice.spoil(0, 1);
    dice.load();
    dice.request(1);
    Check.due("never, behind a load", dice.about(2), -1);
    dice.events(0, 11);
    dice.request(1);
    Check.due("at 0", dice.about(2), 0);
    dice.tick(100);
    Check.due("at 0 still", dice.about(2), 0);
    dice.events(0, 11);
    dice.request(1);
    Check.due("at 100", dice.about(2), 100);
    dice.crash(1);
    dice.save();
    Check.due("never, behind a crash", dice.about(2), -1);
    dice.events(0, 11);
    dice.tick(7);
    dice.request(1);
    Check.due("at 7", dice.about(2), 7);
    dice.init();
    Check.due("never, behind init()", dice.about(2), -1);
  }

  private static void aboutCrash() {
    Check.sentence("writes till the crash (3; 0 if none is told)");
    Dice dice = Dice.seeded();
    Check.due("none is told", dice.about(3), 0);
    for (int n : new int[] {66, 67, 130, 1000}) {
      dice.crash(n);
      Check.due("crash(" + n + ")", dice.about(3), n);
      dice.save();
      Check.due("crash(" + n + "), 65 writes later", dice.about(3), n - 65);
    }
    dice.crash(65);
    Check.due("crash(65)", dice.about(3), 65);
    dice.save();
    Check.due("behind the crash", dice.about(3), 0);
  }

  private static void aboutWrites() {
    Check.sentence("writes in all that happened (4)");
    Dice dice = new Dice();
    Check.due("at first", dice.about(4), 0);
    dice.save();
    dice.load();
    Check.due("behind calls that write nothing", dice.about(4), 0);
    dice.events(0, 11);
    dice.request(256);
    Check.due("behind a request", dice.about(4), 0);
    dice.save();
    Check.due("behind a save", dice.about(4), 65);
    dice.load();
    Check.due("behind a load", dice.about(4), 130);
    dice.crash(65);
    dice.load();
    Check.due("behind a crash with the 65th", dice.about(4), 194);
    dice.crash(1);
    dice.load();
    Check.due("behind a crash with the first", dice.about(4), 194);
    dice.init();
    Check.due("behind init()", dice.about(4), 194);
  }

  private static void aboutSeeded() {
    Check.sentence("whether it is SEEDED (5)");
    Check.due("COUNTER 0", new Dice().about(5), 0);
    Check.due("COUNTER 3", Dice.seeded().about(5), 1);
    Check.due("COUNTER 256", Dice.withCounter(256).about(5), 1);
  }

  private static void aboutPools() {
    Check.sentence("bytes of pool what - 6");
    Dice dice = new Dice();
    int[] due = new int[32];
    for (int pool = 0; pool < 32; pool++) {
      Check.due("pool " + pool + ", empty", dice.about(6 + pool), 0);
      int count = 1 + pool % 9;
      dice.events(pool, count);
      due[pool] = 3 * count;
    }
    Check.due("all pools", dice.poolSizes(), due);
  }

  private static void aboutOthers() {
    Check.sentence("NONE for others.");
    Dice dice = Dice.busy();
    int[] others = {LEAST, LEAST + 5, LEAST + 6, -37, -6, -2, -1, 38, 39, 69, MOST - 1, MOST};
    for (int wrong : others) {
      Check.due("about(" + wrong + ")", dice.about(wrong), -1);
    }
    for (int what = 0; what <= 37; what++) {
      Check.due("about(" + what + ") is not NONE", dice.about(what) != -1, true);
    }
  }
}
