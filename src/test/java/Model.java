import java.io.ByteArrayOutputStream;
import java.math.BigInteger;
import java.security.GeneralSecurityException;
import java.security.MessageDigest;
import java.util.Arrays;
import javax.crypto.Cipher;
import javax.crypto.spec.SecretKeySpec;

/** The document once more, over the Java library's SHA-256 and AES, to compare PoolDice with. */
final class Model {
  private byte[] key;
  private BigInteger counter;
  private int reseeds;
  private ByteArrayOutputStream[] pools;
  private long clock;
  private Long latest;
  private byte[] given;
  private final int[] disk = new int[129];
  private int told = 0;
  private int writes = 0;

  Model() {
    forget();
  }

  static byte[] digest(byte[] row) {
    try {
      return MessageDigest.getInstance("SHA-256").digest(row);
    } catch (GeneralSecurityException e) {
      throw new IllegalStateException(e);
    }
  }

  static byte[] twice(byte[] row) {
    return digest(digest(row));
  }

  static byte[] block(byte[] key, byte[] block) {
    try {
      Cipher aes = Cipher.getInstance("AES/ECB/NoPadding");
      aes.init(Cipher.ENCRYPT_MODE, new SecretKeySpec(key, "AES"));
      return aes.doFinal(block);
    } catch (GeneralSecurityException e) {
      throw new IllegalStateException(e);
    }
  }

  private void forget() {
    key = new byte[16];
    counter = BigInteger.ZERO;
    reseeds = 0;
    pools = new ByteArrayOutputStream[32];
    for (int i = 0; i < 32; i++) {
      pools[i] = new ByteArrayOutputStream();
    }
    clock = 0;
    latest = null;
    given = new byte[0];
  }

  private byte[] counterBytes() {
    byte[] bytes = new byte[16];
    for (int i = 0; i < 16; i++) {
      bytes[i] = counter.shiftRight(8 * i).byteValue();
    }
    return bytes;
  }

  private byte[] nextBlock() {
    byte[] made = block(key, counterBytes());
    counter = counter.add(BigInteger.ONE);
    return made;
  }

  private void reseed(byte[] row) {
    ByteArrayOutputStream all = new ByteArrayOutputStream();
    all.writeBytes(key);
    all.writeBytes(row);
    key = Arrays.copyOf(twice(all.toByteArray()), 16);
    counter = counter.add(BigInteger.ONE);
  }

  private byte[] generate(int n) {
    ByteArrayOutputStream made = new ByteArrayOutputStream();
    while (made.size() < n) {
      made.writeBytes(nextBlock());
    }
    key = nextBlock();
    return Arrays.copyOf(made.toByteArray(), n);
  }

  private void draw() {
    reseeds++;
    ByteArrayOutputStream row = new ByteArrayOutputStream();
    for (int i = 0; i < 32; i++) {
      if (reseeds % (1L << i) == 0) {
        row.writeBytes(twice(pools[i].toByteArray()));
        pools[i].reset();
      }
    }
    reseed(row.toByteArray());
    latest = clock;
  }

  private boolean seeded() {
    return counter.signum() != 0;
  }

  private int saving() {
    byte[] seed = generate(64);
    int mark = disk[0] == 1 ? 2 : 1;
    int from = mark == 1 ? 1 : 65;
    for (int i = 0; i <= 64; i++) {
      if (told == 1) {
        told = 0;
        forget();
        return 5;
      }
      told = Math.max(0, told - 1);
      writes++;
      disk[i < 64 ? from + i : 0] = i < 64 ? seed[i] & 255 : mark;
    }
    return 0;
  }

  void init() {
    forget();
    told = 0;
  }

  boolean event(int source, int pool, int b) {
    if (source < 0 || source > 255 || pool < 0 || pool > 31 || b < 0 || b > 255) {
      return false;
    }
    pools[pool].write(source);
    pools[pool].write(1);
    pools[pool].write(b);
    return true;
  }

  int tick(int ms) {
    if (ms > 0 && clock + ms <= 2147483647L) {
      clock += ms;
    }
    return (int) clock;
  }

  int request(int n) {
    if (n < 1 || n > 256) {
      return -1;
    }
    if (pools[0].size() >= 32 && (latest == null || clock - latest >= 100)) {
      draw();
    }
    if (!seeded()) {
      return -2;
    }
    given = generate(n);
    return n;
  }

  int out(int i) {
    return i >= 0 && i < given.length ? given[i] & 255 : -1;
  }

  int save() {
    return seeded() ? saving() : -2;
  }

  int load() {
    if (disk[0] != 1 && disk[0] != 2) {
      return 1;
    }
    byte[] seed = new byte[64];
    for (int i = 0; i < 64; i++) {
      seed[i] = (byte) disk[(disk[0] == 1 ? 1 : 65) + i];
    }
    reseed(seed);
    return saving();
  }

  void crash(int n) {
    told = Math.max(0, n);
  }

  int byteOf(int part, int i) {
    if (i < 0 || part < 0 || part > 34) {
      return -1;
    }
    if (part == 2) {
      return i <= 128 ? disk[i] : -1;
    }
    byte[] row = rowOf(part);
    return i < row.length ? row[i] & 255 : -1;
  }

  private byte[] rowOf(int part) {
    switch (part) {
      case 0:
        return key;
      case 1:
        return counterBytes();
      default:
        return twice(pools[part - 3].toByteArray());
    }
  }

  boolean spoil(int i, int b) {
    if (i < 0 || i > 128 || b < 0 || b > 255) {
      return false;
    }
    disk[i] = b;
    return true;
  }

  int about(int what) {
    switch (what) {
      case 0:
        return reseeds;
      case 1:
        return (int) clock;
      case 2:
        return latest == null ? -1 : (int) (long) latest;
      case 3:
        return told;
      case 4:
        return writes;
      case 5:
        return seeded() ? 1 : 0;
      default:
        return what >= 6 && what <= 37 ? pools[what - 6].size() : -1;
    }
  }
}
