import java.util.Random;

/** Long runs of calls, made from fixed numbers, on PoolDice and on the Model: all answers agree. */
final class ModelTest {
  // An object is used for 512 calls; the last ones of a run look at the state.
  private static final int CALLS = 512;
  private static final int LOOKS = 64;
  private static final int[] EDGES = {
    Integer.MIN_VALUE, Integer.MIN_VALUE + 1, -6, -5, -2, -1, 0, 1, 2, 3, 4, 5, 6, 15, 16, 17, 31,
    32, 33, 34, 35, 37, 38, 63, 64, 65, 66, 127, 128, 129, 130, 255, 256, 257, 2147483547,
    Integer.MAX_VALUE - 1, Integer.MAX_VALUE
  };

  private final Random random;
  private final PoolDice dice = new PoolDice();
  private final Model model = new Model();
  private final int run;
  private int call = 0;

  private ModelTest(int run) {
    this.run = run;
    this.random = new Random(run);
  }

  public static void main(String[] args) {
    for (int run = 0; run < 400 && !Check.anyWrong(); run++) {
      new ModelTest(run).mixedRun();
    }
    for (int run = 400; run < 440 && !Check.anyWrong(); run++) {
      new ModelTest(run).drawingRun();
    }
    for (int run = 440; run < 480 && !Check.anyWrong(); run++) {
      new ModelTest(run).onePoolRun(run % 2 == 0 ? 0 : 31, run % 32);
    }
    Check.end();
  }

  private void mixedRun() {
    int wild = random.nextInt(4) == 0 ? 30 : 3;
    int burst = 0;
    while (call < CALLS - LOOKS) {
      if (burst > 0) {
        burst--;
        int pool = random.nextInt(8) == 0 ? random.nextInt(32) : 0;
        event(random.nextInt(256), pool, random.nextInt(256));
      } else if (random.nextInt(100) < wild) {
        anyCall(true);
      } else if (random.nextInt(12) == 0) {
        burst = 9 + random.nextInt(5);
      } else {
        anyCall(false);
      }
    }
    lookAtState();
  }

  /** As many drawings as 512 calls can hold, so that the higher pools are drawn from too. */
  private void drawingRun() {
    for (int round = 0; call + 14 <= CALLS - LOOKS; round++) {
      for (int i = 0; i < 11; i++) {
        event(i, 0, random.nextInt(256));
      }
      event(round, 1 + random.nextInt(7), random.nextInt(256));
      tick(run % 2 == 0 ? 100 : 99 + random.nextInt(3));
      request(1 + random.nextInt(256));
    }
    lookAtState();
  }

  /** The fullest pool that there can be. */
  private void onePoolRun(int pool, int look) {
    while (call < CALLS - 1) {
      event(random.nextInt(256), pool, random.nextInt(256));
    }
    byteOf(3 + pool, look);
  }

  private int pick(boolean wild, int below) {
    return wild ? EDGES[random.nextInt(EDGES.length)] : random.nextInt(below);
  }

  private void anyCall(boolean wild) {
    switch (random.nextInt(24)) {
      case 0:
        if (random.nextInt(4) == 0) {
          call++;
          dice.init();
          model.init();
        }
        break;
      case 1, 2:
        event(pick(wild, 256), pick(wild, 32), pick(wild, 256));
        break;
      case 3, 4, 5:
        tick(pick(wild, 120));
        break;
      case 6, 7, 8:
        request(pick(wild, 257));
        break;
      case 9, 10, 11:
        due("out", dice::out, model::out, pick(wild, random.nextBoolean() ? 20 : 256));
        break;
      case 12, 13:
        call++;
        Check.due(place("save()"), dice.save(), model.save());
        break;
      case 14, 15:
        call++;
        Check.due(place("load()"), dice.load(), model.load());
        break;
      case 16:
        crash(pick(wild, 200) - 5);
        break;
      case 17, 18, 19:
        byteOf(pick(wild, 35), pick(wild, random.nextBoolean() ? 16 : 129));
        break;
      case 20:
        int i = pick(wild, random.nextBoolean() ? 1 : 129);
        spoil(i, pick(wild, random.nextBoolean() ? 4 : 256));
        break;
      default:
        due("about", dice::about, model::about, pick(wild, random.nextBoolean() ? 6 : 38));
        break;
    }
  }

  private interface Call {
    int of(int argument);
  }

  private void due(String name, Call got, Call want, int argument) {
    call++;
    Check.due(place(name + "(" + argument + ")"), got.of(argument), want.of(argument));
  }

  private void event(int source, int pool, int b) {
    call++;
    String text = place("event(" + source + ", " + pool + ", " + b + ")");
    Check.due(text, dice.event(source, pool, b), model.event(source, pool, b));
  }

  private void tick(int ms) {
    due("tick", dice::tick, model::tick, ms);
  }

  private void request(int n) {
    due("request", dice::request, model::request, n);
  }

  private void crash(int n) {
    call++;
    dice.crash(n);
    model.crash(n);
  }

  private void byteOf(int part, int i) {
    call++;
    String text = place("byteOf(" + part + ", " + i + ")");
    Check.due(text, dice.byteOf(part, i), model.byteOf(part, i));
  }

  private void spoil(int i, int b) {
    call++;
    Check.due(place("spoil(" + i + ", " + b + ")"), dice.spoil(i, b), model.spoil(i, b));
  }

  /** Calls that change nothing: what they answer tells whether the states agree. */
  private void lookAtState() {
    while (call < CALLS) {
      switch (random.nextInt(4)) {
        case 0:
          byteOf(random.nextInt(2), random.nextInt(18) - 1);
          break;
        case 1:
          byteOf(2 + random.nextInt(34), random.nextInt(131) - 1);
          break;
        case 2:
          due("about", dice::about, model::about, random.nextInt(40) - 1);
          break;
        default:
          due("out", dice::out, model::out, random.nextInt(258) - 1);
          break;
      }
    }
  }

  private String place(String text) {
    return "run " + run + ", call " + call + ": " + text;
  }
}
