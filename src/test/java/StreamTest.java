import java.util.NoSuchElementException;

/** Promises 11 to 15: size, at, feed, spoil, wipe. */
public final class StreamTest {
  private static final Class<NoSuchElementException> MISSING = NoSuchElementException.class;

  public static void main(String[] args) {
    Check check = new Check("StreamTest");
    fed(check);
    full(check);
    spoiled(check);
    wiped(check);
    check.end();
  }

  private static void fed(Check check) {
    ValueStream x = new ValueStream();
    check.holds("feed(.., 8)", x.feed(0x8877665544332211L, 8));
    check.same("size()", x.size(), 8);
    for (int i = 0; i < 8; i++) {
      check.same("at(" + i + ")", x.at(i), 0x11 * (i + 1));
    }
    check.holds("feed(-2, 3)", x.feed(-2, 3));
    check.same("size() then", x.size(), 11);
    check.same("at(8)", x.at(8), 254);
    check.same("at(10)", x.at(10), 255);
    for (int i : new int[] {-1, 11, 600, Integer.MIN_VALUE, Integer.MAX_VALUE}) {
      check.same("at(" + i + ")", x.at(i), -1);
    }
    for (int n : new int[] {0, -1, 9, Integer.MIN_VALUE, Integer.MAX_VALUE}) {
      check.holds("feed(0, " + n + ") is false", !x.feed(0, n));
    }
    check.same("size() stays", x.size(), 11);
  }

  private static void full(Check check) {
    ValueStream x = new ValueStream();
    for (int i = 0; i < 74; i++) {
      x.feed(i, 8);
    }
    x.feed(0, 1);
    check.holds("no room for 8", !x.feed(0, 8));
    check.same("size() of 593", x.size(), 593);
    check.holds("room for 7", x.feed(7L << 48, 7));
    check.same("size() of 600", x.size(), 600);
    check.same("at(599)", x.at(599), 7);
    check.same("at(600)", x.at(600), -1);
    check.holds("no room for 1", !x.feed(0, 1));
    x.spoil(599, 9);
    check.same("the last is spoilt", x.at(599), 9);
  }

  private static void spoiled(Check check) {
    ValueStream x = new ValueStream();
    check.fails("spoil(0, 0) of none", MISSING, () -> x.spoil(0, 0));
    x.feed(0, 3);
    x.spoil(2, 255);
    x.spoil(0, 128);
    check.same("at(0)", x.at(0), 128);
    check.same("at(1)", x.at(1), 0);
    check.same("at(2)", x.at(2), 255);
    for (int i : new int[] {-1, 3, Integer.MIN_VALUE, Integer.MAX_VALUE}) {
      check.fails("spoil(" + i + ", 0)", MISSING, () -> x.spoil(i, 0));
      check.fails("spoil(" + i + ", 256)", MISSING, () -> x.spoil(i, 256));
    }
    for (int v : new int[] {-1, 256, Integer.MIN_VALUE, Integer.MAX_VALUE}) {
      check.fails("spoil(1, " + v + ")", IllegalArgumentException.class, () -> x.spoil(1, v));
    }
    check.same("at(1) stays", x.at(1), 0);
    check.same("size() stays", x.size(), 3);
  }

  private static void wiped(Check check) {
    ValueStream x = new ValueStream();
    x.type(1, -1);
    x.node(0);
    x.write(0, 1, true, true);
    x.wipe();
    check.same("size()", x.size(), 0);
    check.same("at(0)", x.at(0), -1);
    check.same("the nodes stay", x.nodes(), 1);
    check.same("read()", x.read(), -2);
    x.feed(5, 1);
    check.same("from the front again", x.at(0), 5);
  }
}
