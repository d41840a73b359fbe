/** Feeds a stream number by number, each at its place, in one order of bytes. */
final class Feed {
  static final int TAG = 0x7FFFFF00;
  static final int ONE = TAG + 2;
  static final int SEVERAL = TAG + 6;
  static final int ONE_CHUNKED = TAG + 10;
  static final int SEVERAL_CHUNKED = TAG + 14;

  private final ValueStream x;
  private final int order;

  Feed(ValueStream x, int order) {
    this.x = x;
    this.order = order;
    x.wipe();
    x.feed(order, 1);
  }

  /** Feeds on behind what is there. */
  static Feed on(ValueStream x, int order) {
    return new Feed(order, x);
  }

  private Feed(int order, ValueStream x) {
    this.x = x;
    this.order = order;
  }

  /** The letters of a name, five bits each. */
  static int letters(String name) {
    int letters = 0;
    for (char c : name.toCharArray()) {
      letters = letters << 5 | c - 'a' + 1;
    }
    return letters;
  }

  ValueStream stream() {
    return x;
  }

  Feed number(long value, int width) {
    while (x.size() % width != 0) {
      x.feed(0, 1);
    }
    x.feed(order == 1 ? value : Long.reverseBytes(value) >>> 64 - 8 * width, width);
    return this;
  }

  Feed ints(int... values) {
    for (int value : values) {
      number(value, 4);
    }
    return this;
  }

  Feed name(String name) {
    ints(name.length() + 1);
    for (char c : name.toCharArray()) {
      number(c, 1);
    }
    return number(0, 1);
  }

  /** -1 and the way back to a place. */
  Feed back(int place) {
    ints(-1);
    return ints(place - x.size());
  }
}
