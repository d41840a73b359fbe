/** The boundary cases of "TO READ" and of promise 16, a sentence at a time. */
public final class ReadingTest {
  private static final Class<UnsupportedOperationException> TOO_DEEP =
      UnsupportedOperationException.class;
  private static final int LEAST = Integer.MIN_VALUE;
  private static final int MOST = Integer.MAX_VALUE;
  private static final int[] WIDTHS = {1, 2, 4, 8};

  private static final Check check = new Check("ReadingTest");

  /** The order of the bytes in all that is fed. */
  private static int order;

  public static void main(String[] args) {
    for (order = 0; order < 2; order++) {
      fromTheFront();
      sizes();
      numbersInChunks();
      usedUpChunks();
      valuesInOpenChunks();
      valuesBehindChunks();
      otherValues();
      tags();
      room();
      nameCounts();
      lengths();
      lettersAndEnd();
      waysToNames();
      waysToValues();
      numbersOutside();
      orders();
      firstKnownName();
      noKnownName();
      fieldsOfThatType();
      numbering();
      openChunks();
      ends();
      restOfChunk();
      passedChunks();
      passedValues();
      passedNames();
      passedAreNoNodes();
      passedEnd();
      passedOthers();
      answers();
      whatStays();
      noNodeWhenMalformed();
      behindTheValue();
      tooDeep();
      beforeTheTag();
      firstIsOneDeep();
      passedCount();
      noNodeWhenTooDeep();
    }
    check.end();
  }

  private static void addType(ValueStream x, String name, int base, int... kinds) {
    int type = x.type(Feed.letters(name), base);
    for (int kind : kinds) {
      x.field(type, kind);
    }
  }

  private static ValueStream typed(String name, int... kinds) {
    ValueStream x = new ValueStream();
    addType(x, name, -1, kinds);
    return x;
  }

  private static Feed begin(ValueStream x) {
    return new Feed(x, order);
  }

  /** A plain value: its tag at 4, its name of one letter at 8, what is behind it from 14 on. */
  private static Feed plain(ValueStream x, String name) {
    return begin(x).ints(Feed.ONE).name(name);
  }

  /** A chunked value: its tag at 4, its name of one letter at 8, the next int at 16. */
  private static Feed chunked(ValueStream x, String name) {
    return begin(x).ints(Feed.ONE_CHUNKED).name(name);
  }

  /** A chunked value of an unknown z on a: its names at 12 and 20, the next int at 28. */
  private static Feed cut(ValueStream x) {
    return begin(x).ints(Feed.SEVERAL_CHUNKED, 2).name("z").name("a");
  }

  /** The stream is read, and its nodes are taken away again. */
  private static void fine(String what, ValueStream x) {
    x.clear();
    check.same(what + ": read()", x.read(), 0);
    x.clear();
  }

  private static void fromTheFront() {
    check.about("the value behind the order is read, from the front");
    ValueStream x = typed("a", 4, 4);
    plain(x, "a").ints(1, 2);
    check.malformed("the first of two", x, 16);
    plain(x, "a").ints(0, 2);
    check.malformed("the second", x, 20);
    begin(x).ints(Feed.SEVERAL, 0, 0);
    check.malformed("n, before the name", x, 8);
    plain(x, "b").ints(1);
    check.malformed("the name, before the state", x, 8);
    begin(x).ints(0, 1);
    check.same("the first value alone", x.read(), -1);
  }

  private static void sizes() {
    check.about("if no chunk is open, its size is read (it must be 1 or more, and the chunk lie in"
        + " the stream: otherwise MALFORMED at the size)");
    ValueStream x = typed("a", 0);
    for (int size : new int[] {0, -1, -2, LEAST, MOST, Feed.TAG, Feed.TAG - 1}) {
      chunked(x, "a").ints(size).number(5, 1).ints(-1);
      check.malformed("size " + size, x, 16);
    }
    for (int bytes = 0; bytes < 12; bytes++) {
      ValueStream y = typed("a", 0);
      for (int size = 1; size < 14; size++) {
        chunked(y, "a").ints(size).repeated(5, bytes);
        int open = size == 1 ? 24 : 21;
        check.malformed("size " + size + " of " + bytes, y, size > bytes ? 16 : open);
      }
    }
    chunked(x, "a").ints(1).number(5, 1).ints(-1);
    fine("size 1", x);
  }

  private static void numbersInChunks() {
    check.about("the number must lie in the chunk (otherwise at the number)");
    for (int kind = 0; kind < 4; kind++) {
      int width = WIDTHS[kind];
      int place = width == 8 ? 24 : 20;
      for (int size = 1; size <= 16; size++) {
        ValueStream x = typed("a", kind);
        chunked(x, "a").ints(size).repeated(0, size).ints(-1);
        String what = "kind " + kind + " in " + size;
        if (20 + size < place + width) {
          check.malformed(what, x, place);
        } else if (20 + size > place + width) {
          check.malformed(what, x, place + width);
        } else {
          fine(what, x);
        }
      }
    }
  }

  private static void usedUpChunks() {
    check.about("a chunk that is used up is open no more");
    ValueStream x = typed("a", 0, 2, 4, 4);
    chunked(x, "a").ints(1).number(5, 1).ints(4, 6).ints(4, 0).ints(4, 0).ints(-1);
    fine("a chunk for each", x);
    chunked(x, "a").ints(1).number(5, 1).ints(4, 6).ints(8, 0, 0).ints(-1);
    fine("two in the last", x);
    chunked(x, "a").ints(8).number(5, 1).ints(6).ints(0, 0).ints(-1);
    check.malformed("so the next int is a size", x, 28);
    chunked(x, "a").ints(16).number(5, 1).ints(6).ints(0, 0).ints(-1);
    fine("one for all", x);
  }

  private static void valuesInOpenChunks() {
    check.about("A value in a chunked one: if a chunk is open, an int as a number of the state,"
        + " which must be 0 or -1 (then d, a number of the state, too; any other one: at it).");
    ValueStream x = typed("a", 0, 4);
    for (int v : new int[] {1, -2, 4, LEAST, MOST, Feed.TAG - 1, Feed.TAG, Feed.ONE_CHUNKED}) {
      chunked(x, "a").ints(12).number(5, 1).ints(v, 4 - 28, -1);
      check.malformed("value " + v, x, 24);
    }
    chunked(x, "a").ints(8).number(5, 1).ints(0, -1);
    fine("0", x);
    chunked(x, "a").ints(12).number(5, 1).ints(-1, 4 - 28, -1);
    fine("-1", x);
    chunked(x, "a").ints(8).number(5, 1).ints(-1, 4, 4 - 32, -1);
    fine("-1, and d in the next chunk", x);
    chunked(x, "a").ints(8).number(5, 1).ints(-1, 4 - 28, -1);
    check.malformed("-1, and no chunk for d", x, 28);
    for (int size = 2; size < 12; size++) {
      chunked(x, "a").ints(size).number(5, 1).ints(size < 8 ? 0 : -1, 0, -1);
      check.malformed("not all in a chunk of " + size, x, size < 8 ? 24 : 28);
    }
  }

  private static void valuesBehindChunks() {
    check.about("If none is open, the next int is looked at: from 7FFFFF00h on it is a tag,"
        + " otherwise a size, and the chunk has 0 or -1 as said.");
    ValueStream x = typed("a", 4, 4);
    chunked(x, "a").ints(Feed.ONE_CHUNKED).back(8).ints(8, 0, 0, -2).ints(8, -1, 16 - 52, -1);
    fine("a tag, then a size and -1", x);
    chunked(x, "a").ints(4, 0).ints(Feed.ONE_CHUNKED).back(8).ints(4, 0, 4, 0, -2).ints(-1);
    fine("a size and 0, then a tag", x);
    for (int size : new int[] {0, -1, LEAST, 13, Feed.TAG - 1}) {
      chunked(x, "a").ints(size, 0, 0, -1);
      check.malformed("size " + size, x, 16);
    }
    for (int v : new int[] {1, -2, Feed.TAG, Feed.ONE_CHUNKED, MOST}) {
      chunked(x, "a").ints(8, v, 0, -1);
      check.malformed("in the chunk: " + v, x, 20);
    }
    chunked(x, "a").ints(3, 0, 0, -1);
    check.malformed("no room in the chunk", x, 20);
    chunked(x, "a");
    check.malformed("no int", x, 16);
    x.feed(0, 5);
    check.malformed("not all of it", x, 16);
  }

  private static void otherValues() {
    check.about("Other values: an int that must be 0, -1 (then d), or a tag; otherwise at it.");
    ValueStream x = typed("a", 4);
    for (int v : new int[] {1, 2, -2, 256, LEAST, MOST, Feed.TAG - 1, Feed.TAG}) {
      begin(x).ints(v, 0, 0);
      check.malformed("the first: " + v, x, 4);
      plain(x, "a").ints(v, 0, 0);
      check.malformed("a field's: " + v, x, 16);
    }
    plain(x, "a").ints(0);
    fine("0", x);
    plain(x, "a").ints(-1, 4 - 20);
    fine("-1", x);
    plain(x, "a").ints(Feed.ONE).back(8).ints(0);
    fine("a tag", x);
  }

  private static void tags() {
    check.about("A tag must be one of four (of two, with 8, in a chunked one)");
    for (int low = 0; low < 256; low++) {
      ValueStream x = typed("a", 4);
      boolean isOne = low == 2 || low == 6 || low == 10 || low == 14;
      boolean isChunked = low == 10 || low == 14;
      begin(x).ints(Feed.TAG + low, 0);
      check.malformed("the first, with " + low, x, isOne ? 8 : 4);
      plain(x, "a").ints(Feed.TAG + low, 0);
      check.malformed("in a plain one, with " + low, x, isOne ? 20 : 16);
      chunked(x, "a").ints(Feed.TAG + low, 0);
      check.malformed("in a chunked one, with " + low, x, isChunked ? 20 : 16);
      plain(x, "a").ints(Feed.ONE_CHUNKED).back(8).ints(Feed.TAG + low, 0);
      check.malformed("in one in a plain one, with " + low, x, isChunked ? 32 : 28);
      cut(x).ints(4, 0, Feed.TAG + low, 0);
      check.malformed("in what is passed over, with " + low, x, isChunked ? 40 : 36);
    }
  }

  private static void room() {
    check.about("and there must be room for a node: otherwise at it.");
    for (int there = 20; there <= 24; there++) {
      ValueStream x = typed("a", 4);
      for (int i = 0; i < there; i++) {
        x.node(0);
      }
      plain(x, "a").ints(Feed.ONE).back(8).ints(Feed.ONE).back(8).ints(0);
      int[] tagPlaces = {4, 16, 28};
      if (there <= 21) {
        check.same("room for three", x.read(), there);
        check.same("nodes()", x.nodes(), there + 3);
      } else {
        check.malformed("room for " + (24 - there), x, tagPlaces[24 - there]);
      }
    }
  }

  private static void nameCounts() {
    check.about("n must be 1 .. 8: otherwise at it.");
    ValueStream x = typed("a");
    for (int n : new int[] {0, 9, 10, -1, LEAST, MOST}) {
      begin(x).ints(Feed.SEVERAL, n).name("a");
      check.malformed("n " + n, x, 8);
      begin(x).ints(Feed.SEVERAL_CHUNKED, n).name("a");
      check.malformed("chunked, n " + n, x, 8);
    }
    for (int n = 1; n <= 8; n++) {
      Feed feed = begin(x).ints(Feed.SEVERAL, n).name("a");
      for (int i = 1; i < n; i++) {
        feed.back(12);
      }
      fine("n " + n, x);
    }
  }

  private static void lengths() {
    check.about("A name: L must be -1, or 2 .. 7");
    ValueStream x = typed("a");
    for (int length : new int[] {0, 1, 8, 9, -2, -3, LEAST, MOST}) {
      Feed feed = begin(x).ints(Feed.SEVERAL, 2).name("a").ints(length);
      feed.number('b', 1).number(0, 8).number(0, 8);
      check.malformed("L " + length, x, 20);
      begin(x).ints(Feed.ONE, length).number('a', 1).number(0, 8).number(0, 8);
      check.malformed("the first L " + length, x, 8);
    }
    for (int count = 0; count <= 8; count++) {
      begin(x).ints(Feed.SEVERAL, 2).name("a").name("zzzzzzzz".substring(0, count));
      if (count >= 1 && count <= 6) {
        fine("L of " + count + " letters", x);
      } else {
        check.malformed("L of " + count + " letters", x, 20);
      }
    }
  }

  private static void lettersAndEnd() {
    check.about("and all its letters and the 0 there: otherwise at L.");
    for (int count = 1; count <= 6; count++) {
      ValueStream x = typed("abcdef".substring(0, count));
      begin(x).ints(Feed.ONE, count + 1);
      for (int i = 0; i < count; i++) {
        check.malformed(i + " of " + count + " letters", x, 8);
        x.feed('a' + i, 1);
      }
      check.malformed("no 0", x, 8);
      x.feed(0, 1);
      fine("all of them", x);
      for (int bit = 0; bit < 8; bit++) {
        x.spoil(12 + count, 1 << bit);
        check.malformed("no 0 but " + (1 << bit), x, 8);
      }
    }
    noLetters();
  }

  /** The name is behind a known one, so that only its form counts. */
  private static void noLetters() {
    for (int place = 24; place < 30; place++) {
      for (int v = 0; v < 256; v++) {
        ValueStream x = typed("a");
        begin(x).ints(Feed.SEVERAL, 2).name("a").name("mmmmmm");
        x.spoil(place, v);
        if (v >= 'a' && v <= 'z') {
          fine("letter " + v, x);
        } else {
          check.malformed("no letter " + v, x, 20);
        }
      }
    }
  }

  private static void waysToNames() {
    check.about("For -1, the place that d tells must be that of an L that was read before");
    for (int to = -4; to < 44; to++) {
      ValueStream y = typed("a", 4);
      plain(y, "a").ints(Feed.ONE).back(to).ints(0);
      if (to == 8) {
        fine("the name", y);
      } else {
        check.malformed("no name at " + to, y, 24);
      }
    }
    ValueStream x = typed("a", 4);
    for (int d : new int[] {LEAST, MOST, LEAST + 600, MOST - 23, -600, 600, 576}) {
      plain(x, "a").ints(Feed.ONE, -1, d, 0);
      check.malformed("d " + d, x, 24);
    }
    begin(x).ints(Feed.SEVERAL, 2, -1, 8, 2, 0, 0);
    check.malformed("one that comes later", x, 16);
    begin(x).ints(Feed.ONE, -1, -4, 0);
    check.malformed("its own -1", x, 12);
    begin(x).ints(Feed.SEVERAL, 3).name("a").back(12).back(20).ints(0);
    check.malformed("another -1", x, 32);
    begin(x).ints(Feed.ONE, -1);
    check.malformed("no d", x, 12);
  }

  private static void waysToValues() {
    check.about("(of a tag of a value that is a node, for values): otherwise at d.");
    for (int to = -4; to < 44; to++) {
      ValueStream y = typed("a", 4, 4);
      plain(y, "a").ints(Feed.ONE).back(8).ints(0, 0).back(to);
      if (to == 4 || to == 16) {
        fine("a tag", y);
      } else {
        check.malformed("no tag at " + to, y, 40);
      }
      chunked(y, "a").ints(12, 0).back(to).ints(-1);
      if (to == 4) {
        fine("its own tag, in a chunk", y);
      } else {
        check.malformed("no tag at " + to + ", in a chunk", y, 28);
      }
    }
    ValueStream x = typed("a", 4, 4);
    for (int d : new int[] {LEAST, MOST, LEAST + 600, MOST - 19, -600, 600}) {
      plain(x, "a").ints(-1, d, 0);
      check.malformed("d " + d, x, 20);
    }
    plain(x, "a").back(24).ints(Feed.ONE).back(8).ints(0, 0);
    check.malformed("one that comes later", x, 20);
    begin(x).ints(-1, -4, 0);
    check.malformed("the first value has none before it", x, 8);
    x.node(0);
    check.malformed("nodes that are there are not in the stream", x, 8);
  }

  private static void numbersOutside() {
    check.about("Any number that is not all in the stream: at its place.");
    ValueStream x = typed("ab", 0, 4, 1, 3);
    addType(x, "c", 0, 2);
    Feed feed = begin(x).ints(Feed.SEVERAL, 2).name("c").name("ab");
    feed.number(1, 1).ints(0).number(2, 2).number(3, 8).number(4, 4);
    // Where each number stands, and where the next byte behind it is.
    int[][] numbers = {{0, 1}, {4, 8}, {8, 12}, {12, 18}, {20, 27}, {27, 28}, {28, 32}, {32, 34},
        {40, 48}, {48, 52}};
    cutShort(x, numbers);
    ValueStream y = typed("a", 0, 3);
    chunked(y, "a").ints(1).number(1, 1).ints(12).number(2, 8).ints(-1);
    cutShort(y, new int[][] {{0, 1}, {4, 8}, {8, 14}, {16, 21}, {24, 40}, {40, 44}});
    begin(y).ints(-1);
    check.malformed("no d", y, 8);
  }

  /** Each part of a stream is malformed at the first number that is not all in it. */
  private static void cutShort(ValueStream x, int[][] numbers) {
    int size = x.size();
    int[] bytes = new int[size];
    for (int i = 0; i < size; i++) {
      bytes[i] = x.at(i);
    }
    int next = 0;
    x.wipe();
    for (int i = 0; i < size; i++) {
      next += i == numbers[next][1] ? 1 : 0;
      check.malformed(i + " bytes", x, numbers[next][0]);
      x.feed(bytes[i], 1);
    }
    fine("all " + size, x);
  }

  private static void orders() {
    check.about("The order must be there, 0 or 1: otherwise at 0.");
    check.malformed("not there", new ValueStream(), 0);
    for (int v = 0; v < 256; v++) {
      ValueStream x = new ValueStream();
      x.feed(v, 8);
      check.same("order " + v, x.read(), v < 2 ? -1 : -2);
    }
  }

  private static void firstKnownName() {
    check.about("The node's type is that of the first of its names that is a known type");
    ValueStream x = typed("a");
    addType(x, "b", -1);
    addType(x, "c", -1);
    x.known(2, false);
    begin(x).ints(Feed.SEVERAL_CHUNKED, 4).name("z").name("c").name("b").name("a").ints(-1);
    check.same("the third", x.read(), 0);
    check.same("its type", x.get(0, -1), 1);
    begin(x).ints(Feed.SEVERAL, 2).name("a").name("b");
    check.same("the first", x.read(), 1);
    check.same("its type", x.get(1, -1), 0);
    Feed feed = begin(x).ints(Feed.SEVERAL_CHUNKED, 8);
    for (int i = 0; i < 7; i++) {
      feed.name("z");
    }
    feed.name("b").ints(-1);
    check.same("the eighth", x.read(), 2);
    check.same("its type", x.get(2, -1), 1);
  }

  private static void noKnownName() {
    check.about("if there is none, or it is not the first name and the value is not chunked:"
        + " at the first name (at its L or -1)");
    ValueStream x = typed("a", 4);
    for (int tag : new int[] {Feed.ONE, Feed.ONE_CHUNKED}) {
      begin(x).ints(tag).name("b").ints(-1);
      check.malformed("none of one", x, 8);
    }
    for (int tag : new int[] {Feed.SEVERAL, Feed.SEVERAL_CHUNKED}) {
      begin(x).ints(tag, 3).name("b").name("c").name("ab").ints(-1);
      check.malformed("none of three", x, 12);
    }
    begin(x).ints(Feed.SEVERAL, 2).name("b").name("a").ints(0);
    check.malformed("the second, not chunked", x, 12);
    begin(x).ints(Feed.SEVERAL_CHUNKED, 2).name("b").name("a").ints(4, 0, -1);
    fine("the second, chunked", x);
    begin(x).ints(Feed.SEVERAL, 2).name("a").name("b").ints(Feed.ONE).back(20).ints(0);
    check.malformed("at its -1", x, 32);
    begin(x).ints(Feed.SEVERAL, 2).name("a").name("b").ints(Feed.SEVERAL, 2).back(20).back(12);
    check.malformed("at its -1, not chunked", x, 36);
    x.known(0, false);
    begin(x).ints(Feed.SEVERAL_CHUNKED, 2).name("b").name("a").ints(4, 0, -1);
    check.malformed("not known any more", x, 12);
  }

  private static void fieldsOfThatType() {
    check.about("The fields of that type are the state.");
    ValueStream x = typed("a", 0);
    addType(x, "b", 0, 1);
    plain(x, "b").number(5, 1).number(6, 2);
    check.same("b", x.read(), 0);
    check.same("the base's", x.get(0, 0), 5);
    check.same("its own", x.get(0, 1), 6);
    plain(x, "a").number(7, 1);
    check.same("a", x.read(), 1);
    check.same("its fields", x.get(1, -2), 1);
    begin(x).ints(Feed.SEVERAL, 2).name("a").name("b").number(8, 1);
    check.same("names need not be those of bases", x.read(), 2);
  }

  private static void numbering() {
    check.about("Nodes are numbered as their tags come.");
    ValueStream x = typed("a", 0, 4, 4);
    Feed feed = plain(x, "a").number(1, 1);
    feed.ints(Feed.ONE).back(8).number(2, 1).ints(Feed.ONE).back(8).number(3, 1).ints(0, 0).ints(0);
    feed.ints(Feed.ONE).back(8).number(4, 1).ints(0, 0);
    check.same("read", x.read(), 0);
    for (int node = 0; node < 4; node++) {
      check.same("node " + node, x.get(node, 0), node + 1);
    }
    check.same("the first one's second", x.get(0, 2), 3);
    check.same("the second one's first", x.get(1, 1), 2);
  }

  private static void openChunks() {
    check.about("Behind the state of a chunked value no chunk may be open"
        + " (otherwise at the place that was reached)");
    for (int more = 1; more < 8; more++) {
      ValueStream x = typed("a", 0);
      Feed feed = chunked(x, "a").ints(1 + more).number(5, 1);
      for (int i = 0; i < more; i++) {
        feed.number(0, 1);
      }
      feed.ints(-1);
      check.malformed(more + " bytes more", x, 21);
    }
    ValueStream y = typed("a", 4);
    addType(y, "b", -1);
    chunked(y, "b").ints(1).number(0, 1).ints(-1);
    check.malformed("without state the size is no END", y, 16);
    chunked(y, "a").ints(Feed.ONE_CHUNKED).back(8).ints(5, 0).number(0, 1).ints(-2, -1);
    check.malformed("in an inner one", y, 36);
  }

  private static void ends() {
    check.about("and the END must be as due (otherwise at it)");
    ValueStream x = typed("a", 4);
    for (int end : new int[] {0, 1, -2, -3, LEAST, MOST, Feed.ONE_CHUNKED}) {
      chunked(x, "a").ints(4, 0, end);
      check.malformed("END " + end, x, 24);
    }
    for (int end : new int[] {0, 1, 2, -1, -3, LEAST}) {
      chunked(x, "a").ints(Feed.ONE_CHUNKED).back(8).ints(4, 0, end, -1);
      check.malformed("inner END " + end, x, 36);
      chunked(x, "a").ints(Feed.ONE_CHUNKED).back(8).ints(4, 0, -2, end - 1);
      boolean isDue = end == 0;
      check.same("outer END " + (end - 1), x.read(), isDue ? 0 : -2 - 40);
      x.clear();
    }
    chunked(x, "a").ints(4, 0);
    check.malformed("no END", x, 24);
    plain(x, "a").ints(Feed.ONE_CHUNKED).back(8).ints(4, 0, -1);
    fine("a plain one round it does not count", x);
  }

  private static void restOfChunk() {
    check.about("what is left is PASSED OVER: the rest of a chunk that is open");
    ValueStream x = typed("a", 0);
    for (int more = 0; more < 9; more++) {
      Feed feed = cut(x).ints(1 + more).number(5, 1);
      for (int i = 0; i < more; i++) {
        feed.number(255, 1);
      }
      feed.ints(-1);
      check.same(more + " bytes", x.read(), 0);
      check.same("its field", x.get(0, 0), 5);
      x.clear();
    }
    cut(x).ints(2).number(5, 1);
    check.malformed("a chunk that is not all there", x, 28);
    cut(x).ints(2).number(5, 1).number(6, 1).ints(Feed.ONE_CHUNKED).name("y").ints(-2, -1);
    fine("and a value behind it", x);
    addType(x, "b", -1, 4, 0);
    Feed inner = chunked(x, "b").ints(Feed.SEVERAL_CHUNKED, 2).name("z").name("a");
    inner.ints(2).number(5, 1).number(6, 1).ints(-2).ints(1).number(7, 1).ints(-1);
    check.same("in another one", x.read(), 0);
    check.same("whose next number is in its own chunk", x.get(0, 1), 7);
    x.clear();
    begin(x).ints(Feed.SEVERAL_CHUNKED, 2).name("a").name("z").ints(2).number(5, 1).number(6, 1)
        .ints(-1);
    check.malformed("not when the first name is known", x, 33);
  }

  private static void passedChunks() {
    check.about("then, int by int, chunks (sizes as said above)");
    ValueStream x = typed("a");
    cut(x).ints(1).number(9, 1).ints(4, -1).ints(8, Feed.TAG, Feed.TAG).ints(3).number(0, 2)
        .number(0, 1).ints(-1);
    fine("chunks", x);
    for (int size : new int[] {0, -2, LEAST, 9, 10, Feed.TAG - 1}) {
      cut(x).ints(4, 0, size, 0, -1);
      check.malformed("size " + size, x, 36);
    }
    cut(x).ints(8, 0, -1);
    check.malformed("a chunk up to the end", x, 40);
  }

  private static void passedValues() {
    check.about("values with their tags");
    ValueStream x = typed("a");
    Feed feed = cut(x).ints(Feed.ONE_CHUNKED).name("y").ints(4, 7).ints(Feed.SEVERAL_CHUNKED, 1);
    feed.name("x").ints(-3).ints(4, 8).ints(-2).ints(4, 9).ints(Feed.ONE_CHUNKED).back(40);
    feed.ints(-2).ints(-1);
    check.malformed("a way to no name", x, 96);
    feed = cut(x).ints(Feed.ONE_CHUNKED).name("y").ints(4, 7).ints(Feed.SEVERAL_CHUNKED, 1);
    feed.name("x").ints(-3).ints(4, 8).ints(-2).ints(4, 9).ints(Feed.ONE_CHUNKED).back(32);
    feed.ints(-2).ints(-1);
    fine("in one another and behind one another", x);
    check.same("nodes()", x.nodes(), 0);
  }

  private static void passedNames() {
    check.about("names (read, but not looked up)");
    ValueStream x = typed("a");
    cut(x).ints(Feed.ONE_CHUNKED).name("y").ints(-2, -1);
    fine("an unknown one", x);
    cut(x).ints(Feed.SEVERAL_CHUNKED, 2).name("y").name("a").ints(-2, -1);
    fine("the second is known", x);
    for (int n : new int[] {0, 9, -1}) {
      cut(x).ints(Feed.SEVERAL_CHUNKED, n).name("y").ints(-2, -1);
      check.malformed("n " + n, x, 32);
    }
    for (int length : new int[] {0, 1, 8}) {
      cut(x).ints(Feed.ONE_CHUNKED, length, 0, 0, -2, -1);
      check.malformed("L " + length, x, 32);
    }
    cut(x).ints(Feed.ONE_CHUNKED).back(28).ints(-2, -1);
    check.malformed("no name", x, 36);
    cut(x).ints(Feed.ONE_CHUNKED).back(12).ints(-2, -1);
    fine("one that was read", x);
    cut(x).ints(Feed.ONE_CHUNKED).name("b").ints(-2).ints(Feed.ONE_CHUNKED).back(32).ints(-2, -1);
    fine("one that was passed over", x);
  }

  private static void passedAreNoNodes() {
    check.about("and what is in them up to their END (they are no nodes)");
    ValueStream x = typed("a");
    addType(x, "b", -1, 4, 4);
    cut(x).ints(Feed.ONE_CHUNKED).name("a").ints(-2, -1);
    check.same("read", x.read(), 0);
    check.same("nodes()", x.nodes(), 1);
    for (int i = 1; i < 23; i++) {
      x.node(0);
    }
    check.same("they need no room", x.read(), 23);
    x.clear();
    for (int to : new int[] {16, 48}) {
      Feed feed = chunked(x, "b").ints(Feed.SEVERAL_CHUNKED, 2).name("z").name("a");
      feed.ints(4, 0).ints(Feed.ONE_CHUNKED).back(8).ints(-3, -2).ints(8).back(to).ints(-1);
      check.same("a tag stands there", x.at(order == 0 ? 51 : 48), 10);
      if (to == 16) {
        fine("a way to the one round it", x);
      } else {
        check.malformed("a way to one", x, 76);
      }
    }
  }

  private static void passedEnd() {
    check.about("and at last the END");
    ValueStream x = typed("a", 4);
    cut(x).ints(4, 0, -1);
    fine("nothing else", x);
    cut(x).ints(4, 0);
    check.malformed("no END", x, 36);
    cut(x).ints(4, 0, 4, 0);
    check.malformed("no END behind a chunk", x, 44);
    cut(x).ints(4, 0).ints(Feed.ONE_CHUNKED).back(12).ints(-2);
    check.malformed("only the inner one", x, 52);
    cut(x).ints(Feed.SEVERAL_CHUNKED, 2).back(12).back(20).ints(4, 0, 4, 7, -2, 4, 7, -1);
    fine("each of two", x);
  }

  private static void passedOthers() {
    check.about("any other int: at it.");
    ValueStream x = typed("a");
    for (int v : new int[] {0, -2, -3, LEAST}) {
      cut(x).ints(v, -1, -1);
      check.malformed("the first: " + v, x, 28);
      cut(x).ints(1).number(5, 1).ints(v, -1, -1);
      check.malformed("behind a chunk: " + v, x, 36);
    }
    for (int v : new int[] {0, -1, -3, LEAST}) {
      cut(x).ints(Feed.ONE_CHUNKED).name("y").ints(v, -2, -1);
      check.malformed("in a value: " + v, x, 40);
    }
  }

  private static void answers() {
    check.about("Reads the stream: the node that is its value (-1 for none)");
    ValueStream x = typed("a", 4);
    begin(x).ints(0);
    check.same("none", x.read(), -1);
    check.same("nodes()", x.nodes(), 0);
    plain(x, "a").ints(Feed.ONE).back(8).ints(0);
    check.same("the first", x.read(), 0);
    check.same("the next", x.read(), 2);
    for (int i = 0; i < 20; i++) {
      x.node(0);
    }
    begin(x).ints(0);
    check.same("none, and no room", x.read(), -1);
  }

  private static void whatStays() {
    check.about("(the stream stays, nodes that are there too: the new ones come behind them)");
    ValueStream x = typed("a", 2, 4);
    x.node(0);
    x.set(0, 0, 5);
    x.set(0, 1, 0);
    plain(x, "a").ints(6).back(4).ints(9);
    int size = x.size();
    int last = x.at(size - 1);
    for (int i = 1; i < 4; i++) {
      check.same("read", x.read(), i);
      check.same("the old one", x.get(0, 0), 5);
      check.same("its reference", x.get(0, 1), 0);
      check.same("the new one", x.get(i, 0), 6);
      check.same("refers to itself", x.get(i, 1), i);
      check.same("size", x.size(), size);
      check.same("the last byte", x.at(size - 1), last);
    }
  }

  private static void noNodeWhenMalformed() {
    check.about("-2 - the place, when it is malformed (then no node is made)");
    ValueStream x = typed("a", 2, 4);
    x.node(0);
    x.set(0, 0, 5);
    plain(x, "a").ints(6, Feed.ONE).back(8).ints(7, 1);
    check.same("read", x.read(), -2 - 36);
    check.same("nodes()", x.nodes(), 1);
    check.same("the old one", x.get(0, 0), 5);
    check.fails("get(1, -1)", java.util.NoSuchElementException.class, () -> x.get(1, -1));
    check.same("the next node", x.node(0), 1);
    check.same("is new", x.get(1, 0), 0);
    x.wipe();
    check.same("place 0", x.read(), -2);
  }

  private static void behindTheValue() {
    check.about("What is behind the value does not count.");
    ValueStream x = typed("a", 4);
    begin(x).ints(0);
    x.feed(-1, 3);
    check.same("behind none", x.read(), -1);
    plain(x, "a").ints(0).ints(Feed.TAG);
    fine("behind a plain one", x);
    chunked(x, "a").ints(4, 0, -1).ints(Feed.TAG, 0, -1);
    fine("behind a chunked one", x);
  }

  /** Values one in another up to a depth, of which those from one on are passed over. */
  private static Feed deep(ValueStream x, boolean inChunks, int depth, int passedFrom) {
    Feed feed = inChunks ? chunked(x, "a") : plain(x, "a");
    for (int i = 2; i <= depth; i++) {
      if (i == passedFrom - 1) {
        feed.ints(Feed.SEVERAL_CHUNKED, 2).name("z").name("c");
      } else {
        feed.ints(inChunks ? Feed.ONE_CHUNKED : Feed.ONE).back(8);
      }
    }
    return feed;
  }

  private static Feed close(Feed feed, int levels) {
    for (int level = levels; level > 0; level--) {
      feed.ints(-level);
    }
    return feed;
  }

  private static void tooDeep() {
    check.about("Throws UnsupportedOperationException when it comes to a tag"
        + " (an int from 7FFFFF00h on) of a value that lies more than 12 deep");
    for (int i = 0; i < 2; i++) {
      ValueStream x = typed("a", 4);
      boolean inChunks = i == 1;
      deep(x, inChunks, 13, 99);
      check.fails("13", TOO_DEEP, () -> x.read());
      deep(x, inChunks, 14, 99);
      check.fails("14", TOO_DEEP, () -> x.read());
      deep(x, inChunks, 12, 99).ints(Feed.TAG - 1);
      check.malformed("what is no tag, 13 deep", x, x.size() - 4);
      deep(x, inChunks, 12, 99).ints(-2);
      check.malformed("nor that", x, x.size() - 4);
      deep(x, inChunks, 12, 99);
      check.malformed("nor nothing", x, x.size() + 3 & -4);
    }
    ValueStream x = typed("a", 4);
    deep(x, false, 12, 99).ints(0);
    fine("0, 13 deep", x);
    deep(x, false, 12, 99).back(4);
    fine("-1, 13 deep", x);
    close(deep(x, true, 12, 99).ints(4, 0), 12);
    fine("0 in a chunk", x);
    close(deep(x, true, 12, 99).ints(8).back(4), 12);
    fine("-1 in a chunk", x);
    deep(x, true, 12, 99).ints(4, Feed.ONE_CHUNKED);
    check.malformed("in a chunk it is no tag", x, x.size() - 4);
  }

  private static void beforeTheTag() {
    check.about("before it looks at that tag");
    for (int low : new int[] {0, 1, 2, 6, 10, 14, 255}) {
      ValueStream y = typed("a", 4);
      deep(y, false, 12, 99).ints(Feed.TAG + low);
      check.fails("in plain ones, with " + low, TOO_DEEP, () -> y.read());
      deep(y, true, 12, 99).ints(Feed.TAG + low);
      check.fails("in chunked ones, with " + low, TOO_DEEP, () -> y.read());
    }
    ValueStream x = typed("a", 4);
    deep(x, true, 12, 99).ints(Feed.ONE_CHUNKED);
    for (int i = 0; i < 12; i++) {
      x.node(0);
    }
    check.fails("before it looks for room", TOO_DEEP, () -> x.read());
    x.node(0);
    check.malformed("but not before the one round it does", x, 16 + 12 * 10);
  }

  private static void firstIsOneDeep() {
    check.about("(the first value lies 1 deep");
    ValueStream x = typed("a", 4);
    deep(x, false, 12, 99).ints(0);
    check.same("12", x.read(), 0);
    check.same("nodes()", x.nodes(), 12);
    x.clear();
    close(deep(x, true, 12, 99).ints(4, 0), 12);
    check.same("12 in chunks", x.read(), 0);
    check.same("nodes() then", x.nodes(), 12);
  }

  private static void passedCount() {
    check.about("those passed over count, too");
    for (int from = 3; from <= 12; from++) {
      ValueStream x = typed("a", 4);
      addType(x, "c", -1);
      close(deep(x, true, 12, from), 12);
      fine("12, passed over from " + from, x);
      for (int low : new int[] {0, 2, 10, 255}) {
        deep(x, true, 12, from).ints(Feed.TAG + low);
        check.fails("13, passed over from " + from, TOO_DEEP, () -> x.read());
      }
      deep(x, true, 12, from).ints(4, Feed.ONE_CHUNKED);
      close(Feed.on(x, order), 12);
      fine("a tag in a chunk is none", x);
    }
  }

  private static void noNodeWhenTooDeep() {
    check.about("then no node is made)");
    ValueStream x = typed("a", 4);
    x.node(0);
    deep(x, false, 13, 99);
    int size = x.size();
    check.fails("read", TOO_DEEP, () -> x.read());
    check.same("nodes()", x.nodes(), 1);
    check.same("size", x.size(), size);
    check.same("the next one", x.node(0), 1);
    check.same("is new", x.get(1, 0), -1);
    begin(x).ints(0);
    check.same("it reads on", x.read(), -1);
    chunked(x, "a").ints(4, 0, -1);
    check.same("with no chunk open", x.read(), 2);
  }
}
