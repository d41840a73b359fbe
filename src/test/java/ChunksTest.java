/** Promise 16: read, for chunked values, and for those of which the rest is passed over. */
public final class ChunksTest {
  private static final Class<UnsupportedOperationException> TOO_DEEP =
      UnsupportedOperationException.class;

  private static Check check;

  public static void main(String[] args) {
    check = new Check("ChunksTest");
    for (int order = 0; order < 2; order++) {
      oneChunk(order);
      manyChunks(order);
      sizes(order);
      numbersInChunks(order);
      ends(order);
      valuesBetween(order);
      valuesInChunks(order);
      waysInChunks(order);
      levels(order);
      restOfChunk(order);
      restOfAll(order);
      restThatIsMalformed(order);
      passedValues(order);
      passedNames(order);
      passedInRoom(order);
      depth(order);
    }
    check.end();
  }

  /** a: a byte, a reference, four bytes. b on it: a reference. c: nothing. */
  private static ValueStream types() {
    ValueStream x = new ValueStream();
    x.type(Feed.letters("a"), -1);
    x.field(0, 0);
    x.field(0, 4);
    x.field(0, 2);
    x.type(Feed.letters("b"), 0);
    x.field(1, 4);
    x.type(Feed.letters("c"), -1);
    return x;
  }

  /** The tag stands at 4, the name at 8, and the first int behind it at 16. */
  private static Feed begin(ValueStream x, int order, String name) {
    return new Feed(x, order).ints(Feed.ONE_CHUNKED).name(name);
  }

  /** An unknown type z on a: the names stand at 12 and 20, the first int behind them at 28. */
  private static Feed beginCut(ValueStream x, int order) {
    return new Feed(x, order).ints(Feed.SEVERAL_CHUNKED, 2).name("z").name("a");
  }

  private static void oneChunk(int order) {
    ValueStream x = types();
    begin(x, order, "a").ints(12).number(5, 1).ints(0, 6, -1, 99);
    check.same("read()", x.read(), 0);
    check.same("a byte", x.get(0, 0), 5);
    check.same("none", x.get(0, 1), -1);
    check.same("an int", x.get(0, 2), 6);
    begin(x, order, "c").ints(-1);
    check.same("no chunk", x.read(), 1);
    begin(x, order, "c").ints(4, 0, -1);
    check.malformed("a chunk where there is no state", x, 16);
  }

  private static void manyChunks(int order) {
    ValueStream x = types();
    begin(x, order, "a").ints(1).number(5, 1).ints(4, 0, 4, 6, -1);
    check.same("a chunk for each", x.read(), 0);
    check.same("an int", x.get(0, 2), 6);
    begin(x, order, "a").ints(1).number(7, 1).ints(4, -1, 4, 4 - 36, 4, 8, -1);
    check.same("-1 and its way in two chunks", x.read(), 1);
    check.same("the way", x.get(1, 1), 1);
    check.same("what is behind it", x.get(1, 2), 8);
  }

  private static void sizes(int order) {
    ValueStream x = types();
    for (int size : new int[] {0, -1, -2, 17, 18, Feed.ONE_CHUNKED, Feed.TAG, Integer.MAX_VALUE,
        Integer.MIN_VALUE}) {
      begin(x, order, "a").ints(size).number(5, 1).ints(0, 6, -1);
      check.malformed("size " + size, x, 16);
    }
    begin(x, order, "a");
    check.malformed("no size", x, 16);
    x.feed(0, 5);
    check.malformed("a part of it", x, 16);
    begin(x, order, "a").ints(1).number(5, 1).ints(0, 0, 0, -1);
    check.malformed("a second size of 0, at a reference", x, 24);
    begin(x, order, "a").ints(8).number(5, 1).ints(0, 9, 0, -1);
    check.malformed("a size up to behind the stream", x, 28);
    begin(x, order, "a").ints(8).number(5, 1).ints(0, 5, 0).number(9, 1);
    check.malformed("a size up to the stream's end, and no more used", x, 36);
  }

  private static void numbersInChunks(int order) {
    ValueStream x = types();
    for (int size = 2; size < 8; size++) {
      begin(x, order, "a").ints(size).number(5, 1).ints(0, 6, -1);
      check.malformed("a value not all in the chunk", x, 24);
    }
    for (int size = 9; size < 12; size++) {
      begin(x, order, "a").ints(size).number(5, 1).ints(0, 6, -1);
      check.malformed("an int not all in the chunk", x, 28);
    }
    for (int size = 9; size < 12; size++) {
      begin(x, order, "a").ints(size).number(5, 1).ints(-1, 4 - 28, 6, -1);
      check.malformed("a way not all in the chunk", x, 28);
    }
    ValueStream y = new ValueStream();
    y.type(1, -1);
    y.field(0, 3);
    begin(y, order, "a").ints(12).ints(0x55555555).number(-9, 8).ints(-1);
    check.same("fill is in the chunk", y.read(), 0);
    check.same("and is not looked at", y.get(0, 0), -9);
    begin(y, order, "a").ints(8).number(-9, 8).ints(-1);
    check.malformed("a size that leaves the fill out", y, 24);
  }

  private static void ends(int order) {
    ValueStream x = types();
    for (int end : new int[] {0, -2, 1, Feed.ONE_CHUNKED, Integer.MIN_VALUE}) {
      begin(x, order, "a").ints(12).number(5, 1).ints(0, 6, end, 0, 0);
      check.malformed("END " + end, x, 32);
    }
    begin(x, order, "a").ints(12).number(5, 1).ints(0, 6);
    check.malformed("no END", x, 32);
    x.feed(-1, 3);
    check.malformed("a part of it", x, 32);
    begin(x, order, "a").ints(13).number(5, 1).ints(0, 6).number(7, 1).ints(-1);
    check.malformed("a chunk that is open", x, 32);
    ValueStream y = new ValueStream();
    y.type(1, -1);
    y.field(0, 0);
    begin(y, order, "a").ints(3).number(5, 1).number(5, 1).number(5, 1).ints(-1);
    check.malformed("at the place that was reached", y, 21);
    begin(y, order, "a").ints(1).number(5, 1).ints(-1);
    check.same("one byte", y.read(), 0);
  }

  private static void valuesBetween(int order) {
    ValueStream x = types();
    Feed feed = begin(x, order, "a").ints(1).number(5, 1);
    feed.ints(Feed.SEVERAL_CHUNKED, 1).back(8).ints(12).number(6, 1).ints(0, 7, -2);
    feed.ints(4, 8, -1);
    check.same("read()", x.read(), 0);
    check.same("the outer one's", x.get(0, 1), 1);
    check.same("behind it", x.get(0, 2), 8);
    check.same("the inner one's", x.get(1, 2), 7);
    for (int low = 0; low < 256; low++) {
      ValueStream y = types();
      begin(y, order, "a").ints(1).number(5, 1).ints(Feed.TAG + low, 0);
      boolean isTag = low == 10 || low == 14;
      check.malformed("a tag in a chunked one, with " + low, y, isTag ? 28 : 24);
    }
    feed = begin(x, order, "a").ints(1).number(5, 1).ints(Feed.ONE_CHUNKED).name("c");
    feed.ints(-1).ints(4, 8, -1);
    check.malformed("the inner END of another level", x, 36);
    begin(x, order, "a").ints(1).number(5, 1);
    check.malformed("nothing where a value is due", x, 24);
  }

  private static void valuesInChunks(int order) {
    ValueStream x = types();
    for (int v : new int[] {1, -2, Feed.TAG, Feed.ONE_CHUNKED, Integer.MAX_VALUE}) {
      begin(x, order, "a").ints(12).number(5, 1).ints(v, 6, -1);
      check.malformed("a value in an open chunk: " + v, x, 24);
      begin(x, order, "a").ints(1).number(5, 1).ints(8, v, 6, -1);
      check.malformed("a value in a chunk of its own: " + v, x, 28);
    }
    for (int v : new int[] {0, -1, -5, 13, Feed.TAG - 1}) {
      begin(x, order, "a").ints(1).number(5, 1).ints(v, 0, 6, -1);
      check.malformed("a size that is none: " + v, x, 24);
    }
  }

  private static void waysInChunks(int order) {
    ValueStream x = types();
    for (int to : new int[] {0, 8, 12, 16, 24, 28, 600, -4}) {
      begin(x, order, "a").ints(16).number(5, 1).back(to).ints(6, -1);
      check.malformed("no tag at " + to, x, 28);
    }
    begin(x, order, "a").ints(16).number(5, 1).back(4).ints(6, -1);
    check.same("itself", x.read(), 0);
    check.same("its reference", x.get(0, 1), 0);
    begin(x, order, "a").ints(8).number(5, 1).ints(-1, 0, 0, -1);
    check.malformed("the way's chunk is none", x, 28);
  }

  /** Chunked values in values that are not: those do not count for the level. */
  private static void levels(int order) {
    ValueStream x = types();
    Feed feed = new Feed(x, order).ints(Feed.ONE).name("a").number(5, 1);
    feed.ints(Feed.ONE).back(8).number(6, 1);
    feed.ints(Feed.ONE_CHUNKED).back(8).ints(1).number(7, 1);
    feed.ints(Feed.ONE_CHUNKED).name("c").ints(-2, 4, 8, -1);
    feed.ints(9, 10);
    check.same("read()", x.read(), 0);
    check.same("nodes()", x.nodes(), 4);
    check.same("the chunked one", x.get(2, 2), 8);
    check.same("the one round it", x.get(1, 2), 9);
    check.same("the outermost", x.get(0, 2), 10);
    check.same("the innermost", x.get(2, 1), 3);
  }

  private static void restOfChunk(int order) {
    ValueStream x = types();
    beginCut(x, order).ints(14).number(5, 1).ints(0, 6).number(7, 1).number(8, 1).ints(-1);
    check.same("read()", x.read(), 0);
    check.same("its type", x.get(0, -1), 0);
    check.same("its state", x.get(0, 2), 6);
    Feed feed = beginCut(x, order).ints(12).number(5, 1).ints(0, 6, -1);
    check.same("nothing left", x.read(), 1);
    feed = new Feed(x, order).ints(Feed.SEVERAL_CHUNKED, 3).name("z").name("y").name("c");
    feed.ints(4, -1, -1);
    check.same("a base without state", x.read(), 2);
    check.same("is its type", x.get(2, -1), 2);
    feed = new Feed(x, order).ints(Feed.SEVERAL_CHUNKED, 2).name("z").name("y").ints(4, -1, -1);
    check.malformed("no name is known", x, 12);
    x.known(0, false);
    beginCut(x, order).ints(12).number(5, 1).ints(0, 6, -1);
    check.malformed("no name is known any more", x, 12);
  }

  private static void restOfAll(int order) {
    ValueStream x = types();
    Feed feed = beginCut(x, order).ints(13).number(5, 1).ints(0, 6).number(7, 1);
    feed.ints(1).number(9, 1).ints(8, -1, -1);
    feed.ints(Feed.ONE_CHUNKED).name("y").ints(4, -2).ints(Feed.SEVERAL_CHUNKED, 1).back(12);
    feed.ints(8, Feed.TAG, -3, -3).ints(4, 0, -2).ints(2).number(0, 2).ints(-1);
    feed.ints(1, 2, 3);
    check.same("read()", x.read(), 0);
    check.same("nodes()", x.nodes(), 1);
    check.same("its state", x.get(0, 2), 6);
    check.same("its type", x.get(0, -1), 0);
    x.clear();
    // The same as the value of a reference: what is behind it is read on from there.
    feed = begin(x, order, "a").ints(1).number(1, 1);
    feed.ints(Feed.SEVERAL_CHUNKED, 2).name("z").back(8).ints(9).number(5, 1).ints(0).number(6, 1);
    check.malformed("the state of the base is not all in its chunk", x, 60);
    feed = begin(x, order, "a").ints(1).number(1, 1);
    feed.ints(Feed.SEVERAL_CHUNKED, 2).name("z").back(8).ints(13).number(5, 1).ints(0, 6);
    feed.number(7, 1).ints(Feed.ONE_CHUNKED).name("z").ints(-3).ints(-2, 4, 11, -1);
    check.same("in another", x.read(), 0);
    check.same("the outer one's", x.get(0, 2), 11);
    check.same("the inner one's", x.get(1, 2), 6);
    check.same("both", x.nodes(), 2);
  }

  private static void restThatIsMalformed(int order) {
    ValueStream x = types();
    for (int v : new int[] {0, -2, -3, Integer.MIN_VALUE, 9, Feed.TAG - 1}) {
      beginCut(x, order).ints(12).number(5, 1).ints(0, 6, v, 0, -1);
      check.malformed("an int of the rest: " + v, x, 44);
    }
    beginCut(x, order).ints(12).number(5, 1).ints(0, 6, 8, 0, -1);
    check.malformed("no END", x, 56);
    beginCut(x, order).ints(12).number(5, 1).ints(0, 6);
    check.malformed("no rest", x, 44);
    beginCut(x, order).ints(12).number(5, 1).ints(0, 6, 1).number(4, 1);
    check.malformed("no END behind a chunk: at its place", x, 52);
    beginCut(x, order).ints(13).number(5, 1).ints(0, 6).number(4, 1);
    check.malformed("no END behind the rest of a chunk", x, 48);
  }

  private static void passedValues(int order) {
    for (int low = 0; low < 256; low++) {
      ValueStream y = types();
      beginCut(y, order).ints(12).number(5, 1).ints(0, 6, Feed.TAG + low, 0);
      boolean isTag = low == 10 || low == 14;
      check.malformed("a tag that is passed over, with " + low, y, isTag ? 48 : 44);
    }
    ValueStream x = types();
    Feed feed = beginCut(x, order).ints(12).number(5, 1).ints(0, 6, Feed.ONE_CHUNKED).name("c");
    feed.ints(-1, -1);
    check.malformed("the END of another level", x, 56);
    feed = begin(x, order, "b").ints(1).number(5, 1);
    feed.ints(Feed.SEVERAL_CHUNKED, 2).name("z").name("c");
    feed.ints(Feed.ONE_CHUNKED).name("c").ints(-3, -2);
    feed.ints(12, 6).back(48).ints(-1);
    check.malformed("what is passed over is no node", x, 80);
    feed = begin(x, order, "b").ints(1).number(5, 1);
    feed.ints(Feed.SEVERAL_CHUNKED, 2).name("z").name("c");
    feed.ints(Feed.ONE_CHUNKED).name("c").ints(-3, -2);
    feed.ints(12, 6).back(24).ints(-1);
    check.same("what is not is one", x.read(), 0);
    check.same("the reference", x.get(0, 3), 1);
  }

  private static void passedNames(int order) {
    ValueStream x = types();
    for (int n : new int[] {0, 9, -1}) {
      Feed feed = beginCut(x, order).ints(12).number(5, 1).ints(0, 6, Feed.SEVERAL_CHUNKED, n);
      feed.name("c").ints(-2, -1);
      check.malformed("n that is passed over: " + n, x, 48);
    }
    Feed feed = beginCut(x, order).ints(12).number(5, 1).ints(0, 6, Feed.SEVERAL_CHUNKED, 2);
    feed.name("c").name("A").ints(-2, -1);
    check.malformed("a name that is passed over", x, 60);
    feed = beginCut(x, order).ints(12).number(5, 1).ints(0, 6, Feed.ONE_CHUNKED).back(4);
    check.malformed("a way that is passed over", x, 52);
    feed = begin(x, order, "b").ints(1).number(5, 1);
    feed.ints(Feed.SEVERAL_CHUNKED, 2).name("z").name("c");
    feed.ints(Feed.ONE_CHUNKED).name("y").ints(-3, -2);
    feed.ints(4, 6).ints(Feed.SEVERAL_CHUNKED, 3).back(52).back(32).back(40).ints(-2, -1);
    check.same("its names were read", x.read(), 0);
    check.same("the reference", x.get(0, 3), 2);
    check.same("its type", x.get(2, -1), 2);
  }

  private static void passedInRoom(int order) {
    ValueStream x = types();
    for (int i = 0; i < 23; i++) {
      x.node(2);
    }
    Feed feed = beginCut(x, order).ints(12).number(5, 1).ints(0, 6);
    feed.ints(Feed.ONE_CHUNKED).name("c").ints(-2).ints(-1);
    check.same("no room is needed for what is passed over", x.read(), 23);
    check.malformed("but for the node", x, 4);
  }

  private static Feed cutChain(ValueStream x, int order, int depth, int cutFrom) {
    Feed feed = begin(x, order, "d").ints(4, 0);
    for (int i = 2; i <= depth; i++) {
      if (i == cutFrom) {
        feed.ints(Feed.SEVERAL_CHUNKED, 2).name("z").name("c");
      } else {
        feed.ints(Feed.ONE_CHUNKED).back(8);
        feed.ints(4, 0);
      }
    }
    return feed;
  }

  private static ValueStream typesForDepth() {
    ValueStream x = types();
    x.type(Feed.letters("d"), -1);
    x.field(3, 2);
    x.field(3, 4);
    return x;
  }

  private static void depth(int order) {
    for (int cutFrom : new int[] {2, 7, 11, 12, 13}) {
      ValueStream x = typesForDepth();
      Feed feed = cutChain(x, order, 12, cutFrom);
      feed.ints(cutFrom == 13 ? 4 : 1).ints(0);
      for (int level = 12; level > 0; level--) {
        feed.ints(-level);
      }
      check.same("12 deep, cut from " + cutFrom, x.read(), 0);
      check.same("nodes()", x.nodes(), cutFrom == 13 ? 12 : cutFrom);
      x.clear();
      for (int low : new int[] {0, 10, 255}) {
        cutChain(x, order, 12, cutFrom).ints(Feed.TAG + low);
        check.fails("13 deep, cut from " + cutFrom, TOO_DEEP, () -> x.read());
        check.same("no node is made", x.nodes(), 0);
      }
      cutChain(x, order, 12, cutFrom).ints(Feed.TAG - 1);
      check.malformed("no tag, 13 deep", x, x.size() - 4);
    }
    ValueStream x = typesForDepth();
    cutChain(x, order, 12, 13).ints(4, Feed.ONE_CHUNKED);
    check.malformed("in a chunk it is no tag", x, x.size() - 4);
  }
}
