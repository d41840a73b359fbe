import java.util.NoSuchElementException;

/** Promise 10: write. The streams that are due are fed number by number into another object. */
public final class WriteTest {
  private static final Class<UnsupportedOperationException> TOO_MUCH =
      UnsupportedOperationException.class;

  private static Check check;

  public static void main(String[] args) {
    check = new Check("WriteTest");
    for (int order = 0; order < 2; order++) {
      plain(order);
      plainSeveral(order);
      chunked(order);
      chunksRoundValues(order);
      withoutNumbers(order);
      shared(order);
      eightNames(order);
    }
    wrongArguments();
    depth();
    bytes();
    check.end();
  }

  /** A type ab with a byte, two, four and eight bytes, and cd on it with a byte and a reference. */
  private static ValueStream graph() {
    ValueStream x = new ValueStream();
    x.type(Feed.letters("ab"), -1);
    for (int kind = 0; kind < 4; kind++) {
      x.field(0, kind);
    }
    x.type(Feed.letters("cdefgh"), 0);
    x.field(1, 0);
    x.field(1, 4);
    x.node(1);
    x.set(0, 0, -3);
    x.set(0, 1, 0x1234);
    x.set(0, 2, -5);
    x.set(0, 3, 0x0102030405060708L);
    x.set(0, 4, 77);
    return x;
  }

  private static Feed state(Feed due) {
    return due.number(-3, 1).number(0x1234, 2).number(-5, 4).number(0x0102030405060708L, 8)
        .number(77, 1);
  }

  private static void plain(int order) {
    ValueStream x = graph();
    ValueStream due = new ValueStream();
    Feed feed = new Feed(due, order).ints(Feed.ONE).name("cdefgh");
    state(feed).ints(0);
    check.same("write", x.write(0, order, false, false), due.size());
    check.sameStream("plain " + order, x, due);
  }

  private static void plainSeveral(int order) {
    ValueStream x = graph();
    x.known(0, false);
    x.known(1, false);
    x.node(0);
    x.set(0, 5, 1);
    ValueStream due = new ValueStream();
    Feed feed = new Feed(due, order).ints(Feed.SEVERAL, 2).name("cdefgh").name("ab");
    state(feed).ints(Feed.SEVERAL, 1).back(24);
    feed.number(0, 1).number(0, 2).number(0, 4).number(0, 8);
    check.same("write", x.write(0, order, false, true), due.size());
    check.sameStream("several " + order, x, due);
    check.same("size()", x.size(), due.size());
  }

  private static void chunked(int order) {
    ValueStream x = graph();
    ValueStream due = new ValueStream();
    Feed feed = new Feed(due, order).ints(Feed.ONE_CHUNKED).name("cdefgh").ints(24);
    state(feed).ints(0, -1);
    check.same("write", x.write(0, order, true, false), due.size());
    check.sameStream("chunked " + order, x, due);
  }

  /** The chunks end before the fill of the tag and of the END, and begin behind the inner END. */
  private static void chunksRoundValues(int order) {
    ValueStream x = new ValueStream();
    x.type(Feed.letters("ab"), -1);
    x.field(0, 0);
    x.field(0, 4);
    x.field(0, 3);
    x.field(0, 0);
    x.node(0);
    x.node(0);
    x.set(0, 0, 1);
    x.set(0, 1, 1);
    x.set(0, 2, 2);
    x.set(0, 3, 3);
    x.set(1, 0, 4);
    x.set(1, 1, 0);
    x.set(1, 2, 5);
    x.set(1, 3, 6);
    ValueStream due = new ValueStream();
    Feed feed = new Feed(due, order).ints(Feed.ONE_CHUNKED).name("ab").ints(1).number(1, 1);
    feed.ints(Feed.ONE_CHUNKED).back(8).ints(25).number(4, 1).back(4).number(5, 8).number(6, 1);
    feed.ints(-2);
    feed.ints(due.size() % 8 == 0 ? 13 : 9).number(2, 8).number(3, 1).ints(-1);
    check.same("write", x.write(0, order, true, false), due.size());
    check.sameStream("chunks round values " + order, x, due);
  }

  private static void withoutNumbers(int order) {
    ValueStream x = new ValueStream();
    x.type(Feed.letters("a"), -1);
    x.type(Feed.letters("b"), 0);
    x.type(Feed.letters("c"), 1);
    x.field(2, 4);
    x.field(2, 4);
    x.node(2);
    x.node(0);
    x.node(1);
    x.set(0, 0, 1);
    x.set(0, 1, 2);
    ValueStream due = new ValueStream();
    Feed feed = new Feed(due, order).ints(Feed.SEVERAL_CHUNKED, 3).name("c").name("b").name("a");
    feed.ints(Feed.SEVERAL_CHUNKED, 1).back(28).ints(-2);
    feed.ints(Feed.SEVERAL_CHUNKED, 2).back(20).back(28).ints(-2, -1);
    check.same("write", x.write(0, order, true, true), due.size());
    check.sameStream("without numbers " + order, x, due);
  }

  /** A node that was written and is closed already, twice, and one that is being written. */
  private static void shared(int order) {
    ValueStream x = new ValueStream();
    x.type(Feed.letters("a"), -1);
    x.field(0, 4);
    x.field(0, 4);
    x.field(0, 4);
    x.node(0);
    x.node(0);
    x.set(1, 0, 1);
    x.set(1, 1, 0);
    x.set(1, 2, 0);
    ValueStream due = new ValueStream();
    Feed feed = new Feed(due, order).ints(Feed.ONE).name("a").back(4);
    feed.ints(Feed.ONE).back(8).ints(0, 0, 0).back(24);
    check.same("write", x.write(1, order, false, false), due.size());
    check.sameStream("shared " + order, x, due);
  }

  private static void eightNames(int order) {
    ValueStream x = new ValueStream();
    ValueStream due = new ValueStream();
    Feed feed = new Feed(due, order).ints(Feed.SEVERAL, 8);
    for (int i = 0; i < 8; i++) {
      x.type(i + 1, i - 1);
      feed.name(String.valueOf((char) ('h' - i)));
    }
    x.node(7);
    check.same("write", x.write(0, order, false, true), due.size());
    check.sameStream("eight names " + order, x, due);
    check.same("read()", x.read(), 1);
  }

  private static void wrongArguments() {
    ValueStream x = graph();
    for (int node : new int[] {-1, 1, 24, Integer.MIN_VALUE, Integer.MAX_VALUE}) {
      check.fails("write(" + node + ", 0)", NoSuchElementException.class,
          () -> x.write(node, 0, false, false));
      check.fails("write(" + node + ", 2)", NoSuchElementException.class,
          () -> x.write(node, 2, false, false));
    }
    for (int order : new int[] {-1, 2, Integer.MIN_VALUE, Integer.MAX_VALUE}) {
      check.fails("write(0, " + order + ")", IllegalArgumentException.class,
          () -> x.write(0, order, true, true));
    }
    check.same("nothing was written", x.size(), 0);
  }

  private static void depth() {
    ValueStream x = new ValueStream();
    x.type(1, -1);
    x.field(0, 4);
    for (int i = 0; i < 13; i++) {
      x.node(0);
      if (i > 0) {
        x.set(i - 1, 0, i);
      }
    }
    x.feed(5, 1);
    for (int i = 0; i < 4; i++) {
      boolean chunked = i % 2 == 1;
      boolean several = i / 2 == 1;
      check.fails("13 deep", TOO_MUCH, () -> x.write(0, 0, chunked, several));
      check.same("the stream stays", x.size() * 1000 + x.at(0), 1005);
    }
    check.same("12 deep", x.write(1, 0, false, false), 16 + 11 * 12 + 4);
    x.set(12, 0, 1);
    check.same("and none deeper, but a way back", x.write(1, 0, true, false), 152 + 12 * 4 + 8);
    check.fails("13 deep all the same", TOO_MUCH, () -> x.write(0, 0, false, false));
    check.same("the longer stream stays", x.size(), 208);
  }

  /** Eleven nodes in one another, the outermost of a type whose fields end at a byte of choice. */
  private static void bytes() {
    ValueStream x = new ValueStream();
    x.type(1, -1);
    x.field(0, 4);
    x.field(0, 3);
    x.field(0, 3);
    x.field(0, 3);
    x.type(2, 0);
    x.field(1, 3);
    x.field(1, 0);
    x.type(3, 1);
    x.field(2, 3);
    x.field(2, 3);
    x.type(4, 2);
    x.field(3, 0);
    for (int i = 0; i < 10; i++) {
      x.node(1);
      if (i > 0) {
        x.set(i - 1, 0, i);
      }
    }
    x.node(2);
    x.set(10, 0, 0);
    x.node(3);
    x.set(11, 0, 0);
    check.fails("601 bytes", TOO_MUCH, () -> x.write(11, 0, false, false));
    check.same("the stream stays empty", x.size(), 0);
    check.same("600 bytes", x.write(10, 0, false, false), 600);
    check.fails("601 bytes again", TOO_MUCH, () -> x.write(11, 1, false, false));
    check.same("the stream stays", x.size() * 1000 + x.at(0), 600000);
    check.fails("chunks make it longer", TOO_MUCH, () -> x.write(10, 0, true, false));
    check.fails("names make it longer", TOO_MUCH, () -> x.write(10, 0, false, true));
    check.same("600 bytes can be read", x.read(), 12);
    check.same("all of them", x.nodes(), 23);
  }
}
