import java.util.Arrays;

/** The document's terms over rows of numbers 0 .. 255, by the Java library's SHA-256 and AES. */
final class Rows {
  private Rows() {}

  static int[] join(int[]... rows) {
    int[] all = new int[0];
    for (int[] row : rows) {
      int end = all.length;
      all = Arrays.copyOf(all, end + row.length);
      System.arraycopy(row, 0, all, end, row.length);
    }
    return all;
  }

  static int[] part(int[] row, int from, int count) {
    return Arrays.copyOfRange(row, from, from + count);
  }

  static int[] twice(int[] row) {
    return ints(Model.twice(bytes(row)));
  }

  /** What Dice.events() brings into a pool that was empty. */
  static int[] ofEvents(int count) {
    int[] row = new int[3 * count];
    for (int i = 0; i < count; i++) {
      row[3 * i] = i & 255;
      row[3 * i + 1] = 1;
      row[3 * i + 2] = 10 + i & 255;
    }
    return row;
  }

  /** The KEY behind RESEEDING with a row. */
  static int[] reseeded(int[] key, int[] row) {
    return part(twice(join(key, row)), 0, 16);
  }

  static int[] counter(int count) {
    int[] row = new int[16];
    row[0] = count & 255;
    row[1] = count >> 8 & 255;
    return row;
  }

  /** So many blocks by one KEY, from a COUNTER on, one behind the other. */
  static int[] blocks(int[] key, int from, int count) {
    int[] all = new int[0];
    for (int i = 0; i < count; i++) {
      all = join(all, ints(Model.block(bytes(key), bytes(counter(from + i)))));
    }
    return all;
  }

  private static byte[] bytes(int[] row) {
    byte[] made = new byte[row.length];
    for (int i = 0; i < row.length; i++) {
      made[i] = (byte) row[i];
    }
    return made;
  }

  private static int[] ints(byte[] row) {
    int[] made = new int[row.length];
    for (int i = 0; i < row.length; i++) {
      made[i] = row[i] & 255;
    }
    return made;
  }
}
