/**
 * Feeds a stream number by number, each at its place, in one order of bytes. It counts the bytes
 * itself and feeds many at once, since an object is used for 512 calls only.
 */
final class Feed {
  static final int TAG = 0x7FFFFF00;
  static final int ONE = TAG + 2;
  static final int SEVERAL = TAG + 6;
  static final int ONE_CHUNKED = TAG + 10;
  static final int SEVERAL_CHUNKED = TAG + 14;

  private final ValueStream x;
  private final int order;
  private int size;

  private Feed(ValueStream x, int order, int size) {
    this.x = x;
    this.order = order;
    this.size = size;
  }

  /** Feeds from the front. */
  Feed(ValueStream x, int order) {
    this(x, order, 0);
    x.wipe();
    number(order, 1);
  }

  /** Feeds on behind what is there. */
  static Feed on(ValueStream x, int order) {
    return new Feed(x, order, x.size());
  }

  /** The letters of a name, five bits each. */
  static int letters(String name) {
    int letters = 0;
    for (char c : name.toCharArray()) {
      letters = letters << 5 | c - 'a' + 1;
    }
    return letters;
  }

  ValueStream stream() {
    return x;
  }

  Feed number(long value, int width) {
    int fill = -size & width - 1;
    if (fill > 0) {
      bytes(0, fill);
    }
    return bytes(order == 1 ? value : Long.reverseBytes(value) >>> 64 - 8 * width, width);
  }

  Feed ints(int... values) {
    for (int value : values) {
      number(value, 4);
    }
    return this;
  }

  /** For names that are too long, too: up to seven letters and the 0 at once. */
  Feed name(String name) {
    ints(name.length() + 1);
    for (int from = 0; from <= name.length(); from += 8) {
      long letters = 0;
      int count = Math.min(name.length() + 1 - from, 8);
      for (int i = 0; i < count; i++) {
        letters |= (from + i < name.length() ? (long) name.charAt(from + i) : 0) << 8 * i;
      }
      bytes(letters, count);
    }
    return this;
  }

  /** -1 and the way back to a place. */
  Feed back(int place) {
    ints(-1);
    return ints(place - size);
  }

  /** So many bytes of one value. */
  Feed repeated(int value, int count) {
    for (int i = 0; i < count; i += 8) {
      bytes(value * 0x0101010101010101L, Math.min(count - i, 8));
    }
    return this;
  }

  private Feed bytes(long lowestFirst, int count) {
    x.feed(lowestFirst, count);
    size += count;
    return this;
  }
}
