/** A generator of bytes from many poor sources, with a seed on a disk that may crash. */
public final class PoolDice {
  public static final int NONE = -1;

  private static final int DONE = 0;
  private static final int NO_SEED = 1;
  private static final int CRASHED = 5;
  private static final int NOT_SEEDED = -2;

  private static final int POOLS = 32;
  private static final int MOST_BYTES = 256;
  private static final int SEED_BYTES = 64;

  private static final int PART_KEY = 0;
  private static final int PART_COUNTER = 1;
  private static final int PART_DISK = 2;
  private static final int PART_POOLS = 3;

  private static final int ABOUT_RESEEDS = 0;
  private static final int ABOUT_CLOCK = 1;
  private static final int ABOUT_LATEST = 2;
  private static final int ABOUT_CRASH = 3;
  private static final int ABOUT_WRITES = 4;
  private static final int ABOUT_SEEDED = 5;
  private static final int ABOUT_POOLS = 6;

  private final Generator generator;
  private final Disk disk;
  private final int[] given;
  private int givenCount;
  private final int[] newSeed;

  public PoolDice() {
    generator = new Generator();
    disk = new Disk();
    given = new int[MOST_BYTES];
    givenCount = 0;
    newSeed = new int[SEED_BYTES];
  }

  public void init() {
    startAgain();
    disk.tellCrash(0);
  }

  public boolean event(int source, int pool, int b) {
    if (!isByte(source) || !isPool(pool) || !isByte(b)) {
      return false;
    }
    return generator.pools[pool].add(source, b);
  }

  public int tick(int ms) {
    return generator.passTime(ms);
  }

  public int request(int n) {
    if (n < 1 || n > MOST_BYTES) {
      return NONE;
    }
    if (generator.isDrawingDue()) {
      generator.draw();
    }
    if (!generator.isSeeded()) {
      return NOT_SEEDED;
    }
    generator.generate(n, given);
    givenCount = n;
    return n;
  }

  public int out(int i) {
    return byteAt(given, i, givenCount);
  }

  public int save() {
    if (!generator.isSeeded()) {
      return NOT_SEEDED;
    }
    return saveNewSeed();
  }

  public int load() {
    int from = disk.seedPlace();
    if (from == Disk.NO_PLACE) {
      return NO_SEED;
    }
    generator.reseedWith(disk.bytes, from, SEED_BYTES);
    return saveNewSeed();
  }

  public void crash(int n) {
    disk.tellCrash(n);
  }

  public int byteOf(int part, int i) {
    switch (part) {
      case PART_KEY:
        return byteAt(generator.key, i, generator.key.length);
      case PART_COUNTER:
        return byteAt(generator.counter, i, generator.counter.length);
      case PART_DISK:
        return byteAt(disk.bytes, i, disk.bytes.length);
      default:
        return byteOfPool(part, i);
    }
  }

  public boolean spoil(int i, int b) {
    if (i < 0 || i >= disk.bytes.length || !isByte(b)) {
      return false;
    }
    disk.bytes[i] = b;
    return true;
  }

  public int about(int what) {
    switch (what) {
      case ABOUT_RESEEDS:
        return generator.reseeds;
      case ABOUT_CLOCK:
        return generator.clock;
      case ABOUT_LATEST:
        return generator.latest;
      case ABOUT_CRASH:
        return disk.tillCrash;
      case ABOUT_WRITES:
        return disk.writes;
      case ABOUT_SEEDED:
        return generator.isSeeded() ? 1 : 0;
      default:
        return sizeOfPool(what);
    }
  }

  private void startAgain() {
    generator.reset();
    givenCount = 0;
  }

  private int saveNewSeed() {
    generator.generate(SEED_BYTES, newSeed);
    if (disk.store(newSeed)) {
      return DONE;
    }
    startAgain();
    return CRASHED;
  }

  private int byteOfPool(int part, int i) {
    int pool = part - PART_POOLS;
    if (!isPool(pool) || i < 0 || i >= Digest.BYTES) {
      return NONE;
    }
    return generator.byteOfTwice(pool, i);
  }

  private int sizeOfPool(int what) {
    int pool = what - ABOUT_POOLS;
    return isPool(pool) ? generator.pools[pool].size : NONE;
  }

  private static int byteAt(int[] row, int i, int count) {
    return i >= 0 && i < count ? row[i] : NONE;
  }

  private static boolean isByte(int b) {
    return b >= 0 && b <= 255;
  }

  private static boolean isPool(int pool) {
    return pool >= 0 && pool < POOLS;
  }

  /** What is lost with a crash: key, counter, pools and clock. */
  private static final class Generator {
    private static final int LEAST_TO_DRAW = 32;
    private static final int LEAST_WAIT = 100;

    final int[] key;
    final int[] counter;
    final Pool[] pools;
    int reseeds;
    int clock;
    int latest;
    private final Digest digest;
    private final Cipher cipher;
    // The KEY and the row behind it lie in one row, as the DIGEST takes one.
    private final int[] keyAndRow;
    private final int[] twice;

    Generator() {
      key = new int[Cipher.BYTES];
      counter = new int[Cipher.BYTES];
      pools = new Pool[POOLS];
      for (int i = 0; i < POOLS; i++) {
        pools[i] = new Pool();
      }
      reseeds = 0;
      clock = 0;
      latest = NONE;
      digest = new Digest();
      cipher = new Cipher();
      keyAndRow = new int[Cipher.BYTES + POOLS * Digest.BYTES];
      twice = new int[Digest.BYTES];
    }

    void reset() {
      for (int i = 0; i < Cipher.BYTES; i++) {
        key[i] = 0;
        counter[i] = 0;
      }
      for (int i = 0; i < POOLS; i++) {
        pools[i].size = 0;
      }
      reseeds = 0;
      clock = 0;
      latest = NONE;
    }

    boolean isSeeded() {
      for (int i = 0; i < Cipher.BYTES; i++) {
        if (counter[i] != 0) {
          return true;
        }
      }
      return false;
    }

    int passTime(int ms) {
      if (ms > 0 && ms <= Integer.MAX_VALUE - clock) {
        clock += ms;
      }
      return clock;
    }

    boolean isDrawingDue() {
      return pools[0].size >= LEAST_TO_DRAW && (latest == NONE || clock - latest >= LEAST_WAIT);
    }

    void draw() {
      reseeds++;
      int end = Cipher.BYTES;
      for (int i = 0; i < POOLS && isMultiple(reseeds, i); i++) {
        digest.twice(pools[i].bytes, pools[i].size, keyAndRow, end);
        pools[i].size = 0;
        end += Digest.BYTES;
      }
      reseed(end);
      latest = clock;
    }

    // A multiple of 2^i is one of all lower powers too: draw() may end at the first that fails.
    private static boolean isMultiple(int count, int i) {
      return (count & (1 << i) - 1) == 0;
    }

    void reseedWith(int[] row, int from, int count) {
      System.arraycopy(row, from, keyAndRow, Cipher.BYTES, count);
      reseed(Cipher.BYTES + count);
    }

    private void reseed(int end) {
      System.arraycopy(key, 0, keyAndRow, 0, Cipher.BYTES);
      digest.twice(keyAndRow, end, twice, 0);
      System.arraycopy(twice, 0, key, 0, Cipher.BYTES);
      countOn();
    }

    /** The row has room for whole blocks; what lies behind byte n in it is of no meaning. */
    void generate(int n, int[] into) {
      cipher.takeKey(key);
      for (int at = 0; at < n; at += Cipher.BYTES) {
        cipher.encrypt(counter, into, at);
        countOn();
      }
      cipher.encrypt(counter, key, 0);
      countOn();
    }

    int byteOfTwice(int pool, int i) {
      digest.twice(pools[pool].bytes, pools[pool].size, twice, 0);
      return twice[i];
    }

    private void countOn() {
      for (int i = 0; i < Cipher.BYTES; i++) {
        counter[i] = counter[i] + 1 & 255;
        if (counter[i] != 0) {
          return;
        }
      }
    }
  }

  /** The bytes of one pool. */
  private static final class Pool {
    private static final int EVENT_BYTES = 3;
    // 512 calls are all that an object is used for.
    private static final int MOST = 512 * EVENT_BYTES;
    // Small, as most pools get little; seven doublings make it MOST.
    private static final int FIRST_ROOM = 4 * EVENT_BYTES;

    int[] bytes;
    int size;

    Pool() {
      bytes = new int[FIRST_ROOM];
      size = 0;
    }

    boolean add(int source, int b) {
      if (size + EVENT_BYTES > MOST) {
        return false;
      }
      if (size + EVENT_BYTES > bytes.length) {
        grow();
      }
      bytes[size] = source;
      bytes[size + 1] = 1;
      bytes[size + 2] = b;
      size += EVENT_BYTES;
      return true;
    }

    private void grow() {
      int[] wider = new int[2 * bytes.length];
      System.arraycopy(bytes, 0, wider, 0, size);
      bytes = wider;
    }
  }

  /** What outlives a crash, and the crash that is told. */
  private static final class Disk {
    static final int NO_PLACE = 0;
    private static final int FIRST_PLACE = 1;
    private static final int SECOND_PLACE = 1 + SEED_BYTES;
    private static final int MARK_FIRST = 1;
    private static final int MARK_SECOND = 2;

    final int[] bytes;
    int writes;
    int tillCrash;

    Disk() {
      bytes = new int[1 + 2 * SEED_BYTES];
      writes = 0;
      tillCrash = 0;
    }

    void tellCrash(int n) {
      tillCrash = n < 1 ? 0 : n;
    }

    int seedPlace() {
      switch (bytes[0]) {
        case MARK_FIRST:
          return FIRST_PLACE;
        case MARK_SECOND:
          return SECOND_PLACE;
        default:
          return NO_PLACE;
      }
    }

    /** Whether all was written: the MARK comes last, so that a crash leaves the seed before. */
    boolean store(int[] seed) {
      boolean second = bytes[0] == MARK_FIRST;
      int from = second ? SECOND_PLACE : FIRST_PLACE;
      for (int i = 0; i < SEED_BYTES; i++) {
        if (!write(from + i, seed[i])) {
          return false;
        }
      }
      return write(0, second ? MARK_SECOND : MARK_FIRST);
    }

    private boolean write(int i, int b) {
      if (tillCrash == 1) {
        tillCrash = 0;
        return false;
      }
      if (tillCrash > 1) {
        tillCrash--;
      }
      bytes[i] = b;
      writes++;
      return true;
    }
  }

  /** DIGEST and TWICE (SHA-256, once and twice). */
  private static final class Digest {
    static final int BYTES = 32;
    private static final int CHUNK = 64;
    private static final int ROUNDS = 64;
    private static final int LENGTH_BYTES = 8;

    private static final int[] START = {
      0x6a09e667, 0xbb67ae85, 0x3c6ef372, 0xa54ff53a,
      0x510e527f, 0x9b05688c, 0x1f83d9ab, 0x5be0cd19,
    };

    private static final int[] K = {
      0x428a2f98, 0x71374491, 0xb5c0fbcf, 0xe9b5dba5,
      0x3956c25b, 0x59f111f1, 0x923f82a4, 0xab1c5ed5,
      0xd807aa98, 0x12835b01, 0x243185be, 0x550c7dc3,
      0x72be5d74, 0x80deb1fe, 0x9bdc06a7, 0xc19bf174,
      0xe49b69c1, 0xefbe4786, 0x0fc19dc6, 0x240ca1cc,
      0x2de92c6f, 0x4a7484aa, 0x5cb0a9dc, 0x76f988da,
      0x983e5152, 0xa831c66d, 0xb00327c8, 0xbf597fc7,
      0xc6e00bf3, 0xd5a79147, 0x06ca6351, 0x14292967,
      0x27b70a85, 0x2e1b2138, 0x4d2c6dfc, 0x53380d13,
      0x650a7354, 0x766a0abb, 0x81c2c92e, 0x92722c85,
      0xa2bfe8a1, 0xa81a664b, 0xc24b8b70, 0xc76c51a3,
      0xd192e819, 0xd6990624, 0xf40e3585, 0x106aa070,
      0x19a4c116, 0x1e376c08, 0x2748774c, 0x34b0bcb5,
      0x391c0cb3, 0x4ed8aa4a, 0x5b9cca4f, 0x682e6ff3,
      0x748f82ee, 0x78a5636f, 0x84c87814, 0x8cc70208,
      0x90befffa, 0xa4506ceb, 0xbef9a3f7, 0xc67178f2,
    };

    private final int[] hash;
    private final int[] w;
    private final int[] once;

    Digest() {
      hash = new int[START.length];
      w = new int[ROUNDS];
      once = new int[BYTES];
    }

    void twice(int[] row, int count, int[] into, int at) {
      digest(row, count);
      handOut(once, 0);
      digest(once, BYTES);
      handOut(into, at);
    }

    private void digest(int[] row, int count) {
      System.arraycopy(START, 0, hash, 0, START.length);
      int total = ((count + LENGTH_BYTES) / CHUNK + 1) * CHUNK;
      for (int from = 0; from < total; from += CHUNK) {
        takeWords(row, count, from, total);
        spreadWords();
        mixWords();
      }
    }

    private void takeWords(int[] row, int count, int from, int total) {
      for (int t = 0; t < CHUNK / 4; t++) {
        int word = 0;
        for (int k = 0; k < 4; k++) {
          word = word << 8 | filledByte(row, count, from + 4 * t + k, total);
        }
        w[t] = word;
      }
    }

    /** Byte p of the row with what is filled in behind it. */
    private static int filledByte(int[] row, int count, int p, int total) {
      if (p < count) {
        return row[p];
      }
      if (p == count) {
        return 128;
      }
      if (p < total - LENGTH_BYTES) {
        return 0;
      }
      long bits = 8L * count;
      return (int) (bits >>> 8 * (total - 1 - p)) & 255;
    }

    private void spreadWords() {
      for (int t = CHUNK / 4; t < ROUNDS; t++) {
        int x = w[t - 15];
        int y = w[t - 2];
        int low = Integer.rotateRight(x, 7) ^ Integer.rotateRight(x, 18) ^ x >>> 3;
        int high = Integer.rotateRight(y, 17) ^ Integer.rotateRight(y, 19) ^ y >>> 10;
        w[t] = w[t - 16] + low + w[t - 7] + high;
      }
    }

    private void mixWords() {
      int a = hash[0];
      int b = hash[1];
      int c = hash[2];
      int d = hash[3];
      int e = hash[4];
      int f = hash[5];
      int g = hash[6];
      int h = hash[7];
      for (int t = 0; t < ROUNDS; t++) {
        int eTurned =
            Integer.rotateRight(e, 6) ^ Integer.rotateRight(e, 11) ^ Integer.rotateRight(e, 25);
        int aTurned =
            Integer.rotateRight(a, 2) ^ Integer.rotateRight(a, 13) ^ Integer.rotateRight(a, 22);
        int u = h + eTurned + (e & f ^ ~e & g) + K[t] + w[t];
        int v = aTurned + (a & b ^ a & c ^ b & c);
        h = g;
        g = f;
        f = e;
        e = d + u;
        d = c;
        c = b;
        b = a;
        a = u + v;
      }
      hash[0] += a;
      hash[1] += b;
      hash[2] += c;
      hash[3] += d;
      hash[4] += e;
      hash[5] += f;
      hash[6] += g;
      hash[7] += h;
    }

    private void handOut(int[] into, int at) {
      for (int i = 0; i < BYTES; i++) {
        into[at + i] = hash[i / 4] >>> 24 - 8 * (i % 4) & 255;
      }
    }
  }

  /** BLOCK by a KEY (AES-128). */
  private static final class Cipher {
    static final int BYTES = 16;
    private static final int ROUNDS = 10;

    private static final int[] S = {
       99, 124, 119, 123, 242, 107, 111, 197,  48,   1, 103,  43, 254, 215, 171, 118,
      202, 130, 201, 125, 250,  89,  71, 240, 173, 212, 162, 175, 156, 164, 114, 192,
      183, 253, 147,  38,  54,  63, 247, 204,  52, 165, 229, 241, 113, 216,  49,  21,
        4, 199,  35, 195,  24, 150,   5, 154,   7,  18, 128, 226, 235,  39, 178, 117,
        9, 131,  44,  26,  27, 110,  90, 160,  82,  59, 214, 179,  41, 227,  47, 132,
       83, 209,   0, 237,  32, 252, 177,  91, 106, 203, 190,  57,  74,  76,  88, 207,
      208, 239, 170, 251,  67,  77,  51, 133,  69, 249,   2, 127,  80,  60, 159, 168,
       81, 163,  64, 143, 146, 157,  56, 245, 188, 182, 218,  33,  16, 255, 243, 210,
      205,  12,  19, 236,  95, 151,  68,  23, 196, 167, 126,  61, 100,  93,  25, 115,
       96, 129,  79, 220,  34,  42, 144, 136,  70, 238, 184,  20, 222,  94,  11, 219,
      224,  50,  58,  10,  73,   6,  36,  92, 194, 211, 172,  98, 145, 149, 228, 121,
      231, 200,  55, 109, 141, 213,  78, 169, 108,  86, 244, 234, 101, 122, 174,   8,
      186, 120,  37,  46,  28, 166, 180, 198, 232, 221, 116,  31,  75, 189, 139, 138,
      112,  62, 181, 102,  72,   3, 246,  14,  97,  53,  87, 185, 134, 193,  29, 158,
      225, 248, 152,  17, 105, 217, 142, 148, 155,  30, 135, 233, 206,  85,  40, 223,
      140, 161, 137,  13, 191, 230,  66, 104,  65, 153,  45,  15, 176,  84, 187,  22,
    };

    // The 44 words of the document, byte behind byte.
    private final int[] roundKeys;
    private final int[] state;
    private final int[] moved;

    Cipher() {
      roundKeys = new int[(ROUNDS + 1) * BYTES];
      state = new int[BYTES];
      moved = new int[BYTES];
    }

    void takeKey(int[] key) {
      System.arraycopy(key, 0, roundKeys, 0, BYTES);
      int power = 1;
      for (int from = BYTES; from < roundKeys.length; from += BYTES) {
        makeTurnedWord(from, power);
        for (int i = from + 4; i < from + BYTES; i++) {
          roundKeys[i] = roundKeys[i - BYTES] ^ roundKeys[i - 4];
        }
        power = timesX(power);
      }
    }

    private void makeTurnedWord(int from, int power) {
      for (int k = 0; k < 4; k++) {
        int turned = S[roundKeys[from - 4 + (k + 1) % 4]];
        roundKeys[from + k] = roundKeys[from - BYTES + k] ^ turned;
      }
      roundKeys[from] ^= power;
    }

    void encrypt(int[] block, int[] into, int at) {
      System.arraycopy(block, 0, state, 0, BYTES);
      addRoundKey(0);
      for (int r = 1; r <= ROUNDS; r++) {
        substituteAndMove();
        if (r < ROUNDS) {
          mixColumns();
        }
        addRoundKey(r);
      }
      System.arraycopy(state, 0, into, at, BYTES);
    }

    private void addRoundKey(int r) {
      for (int i = 0; i < BYTES; i++) {
        state[i] ^= roundKeys[r * BYTES + i];
      }
    }

    private void substituteAndMove() {
      for (int i = 0; i < BYTES; i++) {
        moved[i] = S[state[(i + 4 * (i % 4)) % BYTES]];
      }
      System.arraycopy(moved, 0, state, 0, BYTES);
    }

    private void mixColumns() {
      for (int from = 0; from < BYTES; from += 4) {
        int a = state[from];
        int b = state[from + 1];
        int c = state[from + 2];
        int d = state[from + 3];
        // 2a + 3b + c + d is a + 2(a + b) + (a + b + c + d), and so on round the four.
        int all = a ^ b ^ c ^ d;
        state[from] = a ^ all ^ timesX(a ^ b);
        state[from + 1] = b ^ all ^ timesX(b ^ c);
        state[from + 2] = c ^ all ^ timesX(c ^ d);
        state[from + 3] = d ^ all ^ timesX(d ^ a);
      }
    }

    private static int timesX(int b) {
      return b < 128 ? b << 1 : b << 1 ^ 0x11b;
    }
  }
}
