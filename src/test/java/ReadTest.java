/** Promise 16: read, for values that are not chunked and what all values have in common. */
public final class ReadTest {
  private static final Class<UnsupportedOperationException> TOO_DEEP =
      UnsupportedOperationException.class;

  private static Check check;

  public static void main(String[] args) {
    check = new Check("ReadTest");
    for (int order = 0; order < 2; order++) {
      numbers(order);
      firstInt(order);
      tags(order);
      names(order);
      namesBack(order);
      nameCounts(order);
      typesByNames(order);
      numbersOutside(order);
      valuesBack(order);
      depth(order);
    }
    orders();
    room();
    newNodesBehindOld();
    check.end();
  }

  /** A type a with a byte and a reference, ab on it with two, four and eight bytes. */
  private static ValueStream types() {
    ValueStream x = new ValueStream();
    x.type(Feed.letters("a"), -1);
    x.field(0, 0);
    x.field(0, 4);
    x.type(Feed.letters("ab"), 0);
    x.field(1, 1);
    x.field(1, 2);
    x.field(1, 3);
    return x;
  }

  private static void numbers(int order) {
    ValueStream x = types();
    Feed feed = new Feed(x, order).ints(Feed.ONE).name("ab").number(-7, 1).ints(0);
    feed.number(-300, 2).number(0x81020304, 4).number(0x8102030405060708L, 8).number(99, 1);
    check.same("read()", x.read(), 0);
    check.same("type", x.get(0, -1), 1);
    check.same("a byte", x.get(0, 0), -7);
    check.same("none", x.get(0, 1), -1);
    check.same("two bytes", x.get(0, 2), -300);
    check.same("four bytes", x.get(0, 3), 0x81020304);
    check.same("eight bytes", x.get(0, 4), 0x8102030405060708L);
    check.same("the stream stays", x.size(), 41);
    for (int fill : new int[] {1, 2, 3, 22, 23, 28, 29, 30, 31}) {
      check.same("fill at " + fill, x.at(fill), 0);
      x.spoil(fill, 255);
    }
    check.same("fill is not looked at", x.read(), 1);
    check.same("the number behind it", x.get(1, 4), 0x8102030405060708L);
  }

  private static void orders() {
    ValueStream x = types();
    check.malformed("no bytes", x, 0);
    for (int order : new int[] {2, 3, 128, 255}) {
      x.wipe();
      x.feed(order, 8);
      check.malformed("order " + order, x, 0);
    }
  }

  private static void firstInt(int order) {
    ValueStream x = types();
    new Feed(x, order);
    for (int size = 1; size < 8; size++) {
      check.malformed("of " + size + " bytes", x, 4);
      x.feed(0, 1);
    }
    check.same("none", x.read(), -1);
    x.feed(-1, 8);
    check.same("none, with more behind it", x.read(), -1);
    check.same("no node", x.nodes(), 0);
    for (int first : new int[] {1, 2, -2, 0x7FFFFEFF, Integer.MIN_VALUE, 0x7FFFFF}) {
      new Feed(x, order).ints(first, 0, 0);
      check.malformed("first int " + first, x, 4);
    }
    new Feed(x, order).ints(-1);
    check.malformed("-1 without a way", x, 8);
    x.feed(0, 3);
    check.malformed("-1 with a part of it", x, 8);
    for (int back : new int[] {0, -4, -8, 4, Integer.MIN_VALUE, Integer.MAX_VALUE}) {
      new Feed(x, order).ints(-1, back, 0);
      check.malformed("-1 and " + back, x, 8);
    }
  }

  private static void tags(int order) {
    for (int low = 0; low < 256; low++) {
      ValueStream x = types();
      new Feed(x, order).ints(Feed.TAG + low, 0);
      boolean isTag = low == 2 || low == 6 || low == 10 || low == 14;
      check.malformed("tag with " + low, x, isTag ? 8 : 4);
    }
  }

  private static void names(int order) {
    ValueStream x = types();
    for (int length : new int[] {-2, 0, 1, 8, 256, Integer.MIN_VALUE, Integer.MAX_VALUE}) {
      new Feed(x, order).ints(Feed.ONE, length, 0x61616161, 0x61616161, 0, 0, 0);
      check.malformed("L " + length, x, 8);
    }
    for (int size = 4; size < 14; size++) {
      new Feed(x, order).ints(Feed.ONE);
      feedPart(x, order, size - 8);
      check.malformed("a name up to " + x.size(), x, 8);
    }
    new Feed(x, order).ints(Feed.ONE).name("a").number(1, 1).ints(0);
    new Feed(x, order).ints(Feed.ONE, 2).number('a', 1);
    check.malformed("the end is in a stream that was", x, 8);
    for (int letter : new int[] {0, 'a' - 1, 'z' + 1, 'A', 1, 255}) {
      ValueStream y = types();
      for (int place = 24; place < 30; place++) {
        nameWith(y, order, place, letter);
        check.malformed("a letter " + letter, y, 20);
      }
    }
    for (int end : new int[] {1, 'a', 255}) {
      nameWith(x, order, 30, end);
      check.malformed("an end " + end, x, 20);
    }
    nameWith(x, order, 29, 'a');
    check.same("letters and an end", x.read(), 0);
  }

  private static void feedPart(ValueStream x, int order, int bytes) {
    for (int i = 0; i < bytes; i++) {
      x.feed(i < 4 ? (i == (order == 1 ? 0 : 3) ? 2 : 0) : 'a', 1);
    }
  }

  /** Behind a known name another one, with its L at 20, its letters from 24 on, its end at 30. */
  private static void nameWith(ValueStream x, int order, int place, int v) {
    new Feed(x, order).ints(Feed.SEVERAL, 2).name("a").name("zzcdef").number(3, 1).ints(0);
    x.spoil(place, v);
  }

  private static void namesBack(int order) {
    ValueStream x = types();
    Feed feed = new Feed(x, order).ints(Feed.ONE).name("a").number(1, 1);
    feed.ints(Feed.ONE).back(8).number(2, 1).ints(0);
    check.same("a name of before", x.read(), 0);
    check.same("both", x.nodes(), 2);
    check.same("the inner one", x.get(1, 0), 2);
    check.same("its type", x.get(1, -1), 0);
    x.clear();
    for (int to : new int[] {0, 4, 7, 9, 12, 16, 20, 24, 28, 596, 600, -4, 1 << 30, -1 << 30}) {
      feed = new Feed(x, order).ints(Feed.ONE).name("a").number(1, 1);
      feed.ints(Feed.ONE).back(to).number(2, 1).ints(0);
      check.malformed("no name at " + to, x, 24);
    }
    new Feed(x, order).ints(Feed.ONE).back(8).ints(0, 0);
    check.malformed("a name that is its own", x, 12);
    new Feed(x, order).ints(Feed.ONE, -1);
    check.malformed("a name that is no more", x, 12);
    new Feed(x, order).ints(Feed.SEVERAL, 3).name("a").back(12).back(20).ints(0, 0);
    check.malformed("the way to a way", x, 32);
    new Feed(x, order).ints(Feed.SEVERAL, 3).name("a").back(12).back(12).number(6, 1).ints(0);
    check.same("one name thrice", x.read(), 0);
    x.clear();
    new Feed(x, order).ints(Feed.ONE).name("a").number(1, 1).ints(0);
    check.same("another stream", x.read(), 0);
    new Feed(x, order).ints(Feed.ONE).back(8);
    check.malformed("names of a stream that was", x, 12);
  }

  private static void nameCounts(int order) {
    ValueStream x = types();
    for (int n : new int[] {0, 9, -1, Integer.MIN_VALUE, Integer.MAX_VALUE}) {
      new Feed(x, order).ints(Feed.SEVERAL, n).name("a").number(1, 1).ints(0);
      check.malformed("n " + n, x, 8);
    }
    new Feed(x, order).ints(Feed.SEVERAL);
    check.malformed("no n", x, 8);
    for (int n = 1; n <= 8; n++) {
      x.clear();
      Feed feed = new Feed(x, order).ints(Feed.SEVERAL, n).name("a");
      for (int i = 1; i < n; i++) {
        feed.name("zz");
      }
      feed.number(n, 1).ints(0);
      check.same("n names: read()", x.read(), 0);
      check.same("n names: get(0, 0)", x.get(0, 0), n);
    }
    new Feed(x, order).ints(Feed.SEVERAL, 2).name("a").number(1, 1).ints(0);
    check.malformed("the second name is none", x, 20);
  }

  private static void typesByNames(int order) {
    ValueStream x = types();
    new Feed(x, order).ints(Feed.ONE).name("b").number(1, 1).ints(0);
    check.malformed("an unknown name", x, 8);
    new Feed(x, order).ints(Feed.SEVERAL, 2).name("b").name("a").number(1, 1).ints(0);
    check.malformed("only the base is known, without chunks", x, 12);
    Feed feed = new Feed(x, order).ints(Feed.SEVERAL, 2).name("a").name("b").number(1, 1);
    feed.ints(Feed.SEVERAL, 2).back(20).back(12).number(1, 1).ints(0);
    check.malformed("likewise by ways back: at the -1", x, 36);
    x.known(0, false);
    new Feed(x, order).ints(Feed.SEVERAL, 2).name("ab").name("a").number(1, 1).ints(0)
        .number(5, 2).number(6, 4).number(7, 8);
    check.same("its base need not be known", x.read(), 0);
    check.same("its own field", x.get(0, 4), 7);
    new Feed(x, order).ints(Feed.SEVERAL, 2).name("b").name("");
    check.malformed("names are read before they are looked up", x, 20);
  }

  private static void numbersOutside(int order) {
    ValueStream x = types();
    // Where each field of ab stands, and where it ends.
    int[][] places = {{15, 16}, {16, 20}, {20, 22}, {24, 28}, {32, 40}};
    Feed feed = new Feed(x, order).ints(Feed.ONE).name("ab").number(-7, 1).ints(0);
    feed.number(-300, 2).number(5, 4).number(6, 8);
    long[] bytes = new long[x.size()];
    for (int i = 0; i < bytes.length; i++) {
      bytes[i] = x.at(i);
    }
    int field = 0;
    x.wipe();
    for (int size = 0; size < bytes.length; size++) {
      if (size >= 15) {
        field += size == places[field][1] ? 1 : 0;
        check.malformed("of " + size + " bytes", x, places[field][0]);
      }
      x.feed(bytes[size], 1);
    }
    check.same("all of them", x.read(), 0);
  }

  private static void valuesBack(int order) {
    ValueStream x = types();
    new Feed(x, order).ints(Feed.ONE).name("a").number(1, 1).back(4);
    check.same("itself", x.read(), 0);
    check.same("its reference", x.get(0, 1), 0);
    check.same("again", x.read(), 1);
    check.same("its own, not the first one", x.get(1, 1), 1);
    for (int to : new int[] {0, 8, 12, 16, 20, 24, 5, 600, -4, 1 << 30, -1 << 30}) {
      new Feed(x, order).ints(Feed.ONE).name("a").number(1, 1).back(to).ints(0, 0);
      check.malformed("no tag at " + to, x, 20);
    }
    new Feed(x, order).ints(Feed.ONE).name("a").number(1, 1).ints(-1);
    check.malformed("no way back", x, 20);
    for (int other : new int[] {1, -2, 0x7FFFFEFF, 0x7FFFFF01, 0x7FFFFFFF}) {
      new Feed(x, order).ints(Feed.ONE).name("a").number(1, 1).ints(other, 0, 0);
      check.malformed("no value " + other, x, 16);
    }
  }

  private static Feed chain(ValueStream x, int order, int depth) {
    Feed feed = new Feed(x, order).ints(Feed.ONE).name("a").number(1, 1);
    for (int i = 1; i < depth; i++) {
      feed.ints(Feed.ONE).back(8).number(i + 1, 1);
    }
    return feed;
  }

  private static void depth(int order) {
    ValueStream x = types();
    chain(x, order, 12).ints(0);
    check.same("12 deep", x.read(), 0);
    check.same("nodes()", x.nodes(), 12);
    check.same("the innermost", x.get(11, 0), 12);
    check.same("numbered as tags come", x.get(10, 1), 11);
    chain(x, order, 12).back(4);
    check.same("and a way back", x.read(), 12);
    check.same("to the outermost", x.get(23, 1), 12);
    for (int low : new int[] {0, 2, 255}) {
      chain(x, order, 12).ints(Feed.TAG + low);
      x.clear();
      check.fails("13 deep with " + low, TOO_DEEP, () -> x.read());
      check.same("no node is made", x.nodes(), 0);
    }
    chain(x, order, 12).ints(Feed.TAG - 1);
    int place = x.size() - 4;
    check.malformed("no tag, 13 deep", x, place);
    chain(x, order, 12);
    x.feed(0, 3);
    check.malformed("no int, 13 deep", x, place);
  }

  private static void room() {
    ValueStream x = types();
    for (int i = 0; i < 23; i++) {
      x.node(0);
    }
    chain(x, 0, 2).ints(0);
    check.malformed("room for one, and two come", x, 16);
    chain(x, 0, 1).ints(0);
    check.same("room for one, and one comes", x.read(), 23);
    check.malformed("no room", x, 4);
    new Feed(x, 0).ints(Feed.ONE, 0);
    check.malformed("no room, before names are read", x, 4);
    new Feed(x, 0).ints(0);
    check.same("none needs no room", x.read(), -1);
    check.same("nodes()", x.nodes(), 24);
    x.clear();
    for (int i = 0; i < 13; i++) {
      x.node(0);
    }
    chain(x, 0, 12).ints(Feed.ONE);
    check.malformed("no room for the 12th", x, 16 + 10 * 16);
    x.clear();
    for (int i = 0; i < 12; i++) {
      x.node(0);
    }
    check.fails("depth goes before room", TOO_DEEP, () -> x.read());
  }

  private static void newNodesBehindOld() {
    ValueStream x = types();
    x.node(0);
    x.set(0, 0, 5);
    x.set(0, 1, 0);
    chain(x, 1, 2).back(16);
    check.same("read()", x.read(), 1);
    check.same("the old one stays", x.get(0, 0), 5);
    check.same("and what it refers to", x.get(0, 1), 0);
    check.same("the outer one's", x.get(1, 1), 2);
    check.same("the inner one's", x.get(2, 1), 2);
    chain(x, 1, 2).back(0);
    check.malformed("then no node is made", x, 36);
    check.same("the next one", x.node(0), 3);
    check.same("is new", x.get(3, 0), 0);
    check.same("and refers to none", x.get(3, 1), -1);
  }
}
