/** The boundary cases of "What it is" and of "Terms", but for "TO READ", a sentence at a time. */
public final class TermsTest {
  private static final Class<IllegalArgumentException> ARGUMENT = IllegalArgumentException.class;
  private static final Class<IllegalStateException> STATE = IllegalStateException.class;
  private static final int[] WIDTHS = {1, 2, 4, 8};

  private static final Check check = new Check("TermsTest");

  public static void main(String[] args) {
    calls();
    atMostEightTypes();
    lettersOfNames();
    differentNames();
    bases();
    ownFields();
    kinds();
    fieldsOfBases();
    knownTypes();
    atMostTwentyFourNodes();
    nodesAtFirst();
    sixHundredBytes();
    placesFromZero();
    orders();
    placesOfNumbers();
    fillIsZero();
    fillIsNotLookedAt();
    noValue();
    wayToTag();
    tags();
    oneToEightNames();
    namesUpwards();
    stateInOrder();
    lengthsOfNames();
    waysToNames();
    sizesOfChunks();
    betweenChunks();
    chunkedInChunked();
    levels();
    endsOfChunks();
    upToTheLastBase();
    writtenAlready();
    beginsOfChunks();
    check.end();
  }

  private static int addType(ValueStream x, String name, int base, int... kinds) {
    int type = x.type(Feed.letters(name), base);
    for (int kind : kinds) {
      x.field(type, kind);
    }
    return type;
  }

  private static ValueStream typed(String name, int... kinds) {
    ValueStream x = new ValueStream();
    addType(x, name, -1, kinds);
    return x;
  }

  /** Nodes of type 0, each of which refers by its field 0 to the next one. */
  private static void addChain(ValueStream x, int length) {
    for (int i = 0; i < length; i++) {
      x.node(0);
      if (i > 0) {
        x.set(i - 1, 0, i);
      }
    }
  }

  private static void written(String what, ValueStream x, boolean chunked, boolean several,
      Feed due) {
    check.same(what + ": write", x.write(0, 0, chunked, several), due.stream().size());
    check.sameStream(what, x, due.stream());
  }

  private static Feed due() {
    return new Feed(new ValueStream(), 0);
  }

  private static void calls() {
    check.about("An object is used for at most 512 calls after it has been made");
    ValueStream x = typed("a", 4, 3, 3, 3);
    addChain(x, 12);
    x.set(11, 3, 77);
    int size = x.write(0, 0, true, true);
    int calls = 5 + 12 + 11 + 2;
    for (; calls < 508; calls += 3) {
      check.same("write, call " + (calls + 1), x.write(0, 0, true, true), size);
      x.clear();
      check.same("read, call " + (calls + 3), x.read(), 0);
    }
    check.same("nodes, call 511", x.nodes(), calls == 510 ? 12 : -1);
    check.same("get, call 512", x.get(11, 3), 77);
  }

  private static void atMostEightTypes() {
    check.about("TYPES 0, 1, .., at most 8");
    ValueStream x = new ValueStream();
    for (int i = 0; i < 8; i++) {
      check.same("type", x.type(i + 1, -1), i);
    }
    check.fails("one more", STATE, () -> x.type(9, -1));
    check.fails("node(8)", ARGUMENT, () -> x.node(8));
    check.same("node(7)", x.node(7), 0);
  }

  private static void lettersOfNames() {
    check.about("each with a NAME of 1 to 6 letters a .. z");
    int name = 0;
    for (int count = 1; count <= 6; count++) {
      name = name << 5 | 26;
      check.same(count + " letters", new ValueStream().type(name, -1), 0);
    }
    check.fails("no letters", ARGUMENT, () -> new ValueStream().type(0, -1));
    for (int above = 0; above < 30; above += 5) {
      for (int letter = 0; letter < 32; letter++) {
        int with = Feed.letters("bbbbbb") & ~(31 << above) | letter << above;
        boolean isFiveLetters = above == 25 && letter == 0;
        if (letter >= 1 && letter <= 26 || isFiveLetters) {
          check.same("type(" + with + ")", new ValueStream().type(with, -1), 0);
        } else {
          check.fails("type(" + with + ")", ARGUMENT, () -> new ValueStream().type(with, -1));
        }
      }
    }
  }

  private static void differentNames() {
    check.about("all different");
    ValueStream x = new ValueStream();
    String[] names = {"a", "aa", "ab", "ba", "b", "aaaaaa", "baaaaa"};
    for (int i = 0; i < names.length; i++) {
      check.same(names[i], x.type(Feed.letters(names[i]), -1), i);
    }
    for (String name : names) {
      check.fails(name + " again", ARGUMENT, () -> x.type(Feed.letters(name), -1));
    }
    x.known(0, false);
    check.fails("one that is not known any more", ARGUMENT, () -> x.type(1, 2));
  }

  private static void bases() {
    check.about("a BASE, a type made before, or none");
    ValueStream x = new ValueStream();
    check.fails("itself", ARGUMENT, () -> x.type(1, 0));
    check.same("none", x.type(1, -1), 0);
    check.fails("the next one", ARGUMENT, () -> x.type(2, 1));
    check.fails("-2", ARGUMENT, () -> x.type(2, -2));
    check.same("the first", x.type(2, 0), 1);
    check.same("the last", x.type(3, 1), 2);
    check.same("the first again", x.type(4, 0), 3);
  }

  private static void ownFields() {
    check.about("OWN FIELDS, at most 4");
    ValueStream x = new ValueStream();
    for (int type = 0; type < 8; type++) {
      x.type(type + 1, type - 1);
      for (int own = 1; own <= 4; own++) {
        check.same("field", x.field(type, own % 4), own);
      }
      int full = type;
      check.fails("one more", STATE, () -> x.field(full, 0));
    }
    x.node(7);
    check.same("4 of each of 8", x.get(0, -2), 32);
  }

  private static void kinds() {
    check.about("each of a KIND: 0 a byte, 1 two, 2 four, 3 eight bytes (a number with sign),"
        + " 4 a REFERENCE");
    for (int kind = 0; kind < 4; kind++) {
      long lowest = -1L << 8 * WIDTHS[kind] - 1;
      for (int order = 0; order < 2; order++) {
        for (long v : new long[] {lowest, ~lowest, -1, 1, 0}) {
          ValueStream x = typed("abc", kind);
          x.node(0);
          x.set(0, 0, v);
          check.same("get of kind " + kind, x.get(0, 0), v);
          check.same("write", x.write(0, order, false, false), 16 + WIDTHS[kind]);
          check.same("read", x.read(), 1);
          check.same("get of what was read", x.get(1, 0), v);
        }
      }
    }
    ValueStream x = typed("abc", 4);
    x.node(0);
    check.fails("a reference is no number", ARGUMENT, () -> x.set(0, 0, 1));
    check.fails("kind 5", ARGUMENT, () -> x.field(0, 5));
  }

  private static void fieldsOfBases() {
    check.about("The FIELDS of a type are those of its base, and behind them its own.");
    ValueStream x = typed("a", 0);
    addType(x, "b", 0);
    addType(x, "c", 1, 1, 4);
    addType(x, "d", 2);
    x.node(3);
    x.set(0, 0, 0x12345678);
    x.set(0, 1, 0x12345678);
    x.set(0, 2, 0);
    check.same("how many", x.get(0, -2), 3);
    check.same("the first base's", x.get(0, 0), 0x78);
    check.same("the next one's", x.get(0, 1), 0x5678);
    check.same("the last", x.get(0, 2), 0);
    x.node(1);
    check.same("of one without its own", x.get(1, -2), 1);
  }

  private static void knownTypes() {
    check.about("A type is KNOWN, or not any more.");
    ValueStream x = typed("a");
    x.node(0);
    x.write(0, 0, false, false);
    check.same("it is at first", x.read(), 1);
    x.known(0, false);
    check.malformed("not any more", x, 8);
    x.type(2, -1);
    check.malformed("nor when others are made", x, 8);
  }

  private static void atMostTwentyFourNodes() {
    check.about("NODES 0, 1, .., at most 24");
    ValueStream x = typed("a");
    for (int i = 0; i < 24; i++) {
      check.same("node", x.node(0), i);
    }
    check.fails("one more", STATE, () -> x.node(0));
    x.write(23, 0, false, false);
    check.malformed("one more by reading", x, 4);
    x.clear();
    for (int i = 0; i < 24; i++) {
      check.same("read", x.read(), i);
    }
    check.malformed("one more", x, 4);
    check.fails("nor by node", STATE, () -> x.node(0));
  }

  private static void nodesAtFirst() {
    check.about("at first all 0 and -1");
    ValueStream x = typed("a", 0, 1, 2, 3);
    addType(x, "b", 0, 4);
    for (int time = 0; time < 2; time++) {
      for (int node = 0; node < 20; node++) {
        x.node(1);
        for (int k = 0; k < 5; k++) {
          check.same("field " + k, x.get(node, k), k == 4 ? -1 : 0);
          x.set(node, k, k == 4 ? node : -5);
        }
      }
      x.clear();
    }
    new Feed(x, 0).ints(Feed.ONE).name("b").number(5, 1).number(6, 2).number(7, 4).number(8, 8);
    check.malformed("a node that was begun", x, 32);
    x.node(1);
    for (int k = 0; k < 5; k++) {
      check.same("field " + k + " then", x.get(0, k), k == 4 ? -1 : 0);
    }
  }

  /** A chunk up to the last four of 600 bytes, or up to one byte more. */
  private static ValueStream chunkUpTo(int end) {
    ValueStream x = typed("c");
    new Feed(x, 0).ints(Feed.SEVERAL_CHUNKED, 2).name("z").name("c").ints(end - 32);
    while (x.feed(-1, 8)) {
      check.holds("more than 600 bytes", x.size() <= 600);
    }
    return x;
  }

  private static void sixHundredBytes() {
    check.about("THE STREAM is a row of at most 600 bytes");
    ValueStream x = chunkUpTo(596);
    check.same("size", x.size(), 600);
    check.holds("one more", !x.feed(0, 1));
    check.same("an END in the last four", x.read(), 0);
    check.malformed("an END behind them", chunkUpTo(597), 600);
    check.malformed("no END", chunkUpTo(600), 600);
    check.malformed("a chunk behind them", chunkUpTo(601), 28);
  }

  private static void placesFromZero() {
    check.about("a byte's PLACE counts from 0");
    ValueStream x = new ValueStream();
    x.feed(0x0302, 2);
    check.same("at(0)", x.at(0), 2);
    check.same("at(1)", x.at(1), 3);
    check.malformed("the first place", x, 0);
  }

  private static void orders() {
    check.about("The byte at place 0 is the ORDER: 0 the highest byte of a number first,"
        + " 1 the lowest.");
    for (int kind = 0; kind < 4; kind++) {
      ValueStream x = typed("abc", kind);
      x.node(0);
      x.set(0, 0, 0x8182838485868788L);
      for (int order = 0; order < 2; order++) {
        x.write(0, order, false, false);
        check.same("at(0)", x.at(0), order);
        for (int i = 0; i < WIDTHS[kind]; i++) {
          int place = 16 + (order == 1 ? i : WIDTHS[kind] - 1 - i);
          check.same("byte " + i + " in order " + order, x.at(place), 0x88 - i);
        }
      }
    }
  }

  private static void placesOfNumbers() {
    check.about("A NUMBER of n bytes stands at a place that can be divided by n");
    // A name of so many letters ends at the places 14 to 19.
    for (int letters = 1; letters <= 6; letters++) {
      for (int kind = 0; kind < 4; kind++) {
        ValueStream x = typed("abcdef".substring(0, letters), kind);
        x.node(0);
        x.set(0, 0, 0x0101010101010101L);
        int place = 13 + letters;
        while (place % WIDTHS[kind] != 0) {
          place++;
        }
        check.same("write", x.write(0, 0, false, false), place + WIDTHS[kind]);
        for (int i = 13 + letters; i < x.size(); i++) {
          check.same("at(" + i + ")", x.at(i), i < place ? 0 : 1);
        }
        check.same("read", x.read(), 1);
        check.same("get", x.get(1, 0), x.get(0, 0));
      }
    }
  }

  private static void fillIsZero() {
    check.about("the bytes before it, up to there, are 0");
    ValueStream x = typed("a", 3, 3, 3, 3);
    addType(x, "b", -1, 0, 3, 0, 2);
    x.node(0);
    for (int k = 0; k < 4; k++) {
      x.set(0, k, -1);
    }
    x.node(1);
    while (x.feed(-1, 8)) {
      check.holds("full", x.size() <= 600);
    }
    x.write(0, 0, false, false);
    for (int order = 0; order < 2; order++) {
      x.write(1, order, false, false);
      for (int place : new int[] {1, 2, 3, 15, 25, 26, 27}) {
        check.same("at(" + place + ")", x.at(place), 0);
      }
      x.write(1, order, true, false);
      for (int place : new int[] {1, 2, 3, 14, 15, 21, 22, 23, 33, 34, 35}) {
        check.same("chunked, at(" + place + ")", x.at(place), 0);
      }
    }
  }

  private static void fillIsNotLookedAt() {
    check.about("a reader does not look at them");
    ValueStream x = typed("b", 0, 3, 0, 2);
    x.node(0);
    for (int k = 0; k < 4; k++) {
      x.set(0, k, 11 * k - 20);
    }
    x.write(0, 0, false, false);
    spoilAndRead(x, 1, 2, 3, 15, 25, 26, 27);
    x.write(0, 0, true, false);
    spoilAndRead(x, 1, 2, 3, 14, 15, 21, 22, 23, 33, 34, 35);
  }

  private static void spoilAndRead(ValueStream x, int... fill) {
    for (int place : fill) {
      x.spoil(place, 255);
      int node = x.read();
      check.holds("read with 255 at " + place, node > 0);
      for (int k = 0; k < 4 && node > 0; k++) {
        check.same("field " + k, x.get(node, k), 11 * k - 20);
      }
    }
  }

  private static void noValue() {
    check.about("A VALUE is 0 (an int): none.");
    ValueStream x = typed("a", 4);
    x.node(0);
    written("a reference to none", x, false, false, due().ints(Feed.ONE).name("a").ints(0));
    check.same("read", x.read(), 1);
    check.same("get", x.get(1, 0), -1);
  }

  private static void wayToTag() {
    check.about("Or -1 and an int d: the value whose TAG stands at the place of that d plus d.");
    ValueStream x = typed("a", 4, 4);
    addChain(x, 2);
    x.set(0, 1, 1);
    x.set(1, 1, 1);
    Feed due = due().ints(Feed.ONE).name("a").ints(Feed.ONE).ints(-1, 8 - 24, 0, -1, 16 - 36);
    written("to a value in it and to itself", x, false, false, due.ints(-1, 16 - 44));
    check.same("read", x.read(), 2);
    check.same("the outer one's", x.get(2, 1), 3);
    check.same("the inner one's", x.get(3, 1), 3);
  }

  private static void tags() {
    check.about("7FFFFF00h, plus 2 (one name) or 6 (several), plus 8 if it is CHUNKED");
    ValueStream x = typed("a");
    x.node(0);
    written("one", x, false, false, due().ints(0x7FFFFF02).name("a"));
    written("several", x, false, true, due().ints(0x7FFFFF06, 1).name("a"));
    written("one, chunked", x, true, false, due().ints(0x7FFFFF0A).name("a").ints(-1));
    written("several, chunked", x, true, true, due().ints(0x7FFFFF0E, 1).name("a").ints(-1));
  }

  private static void oneToEightNames() {
    check.about("then, for 6, an int n, 1 .. 8");
    for (int n = 1; n <= 8; n++) {
      ValueStream x = new ValueStream();
      for (int type = 0; type < n; type++) {
        x.type(type + 1, type - 1);
      }
      x.node(n - 1);
      for (int chunked = 0; chunked < 2; chunked++) {
        x.write(0, 1, chunked == 1, true);
        check.same("n", x.at(8), n);
        check.same("read", x.read(), 1 + chunked);
      }
    }
  }

  private static void namesUpwards() {
    check.about("then one or n names, that of the type first, then its base, and so on");
    ValueStream x = typed("a");
    addType(x, "b", 0);
    addType(x, "c", 0);
    addType(x, "d", 2);
    x.node(3);
    written("one", x, false, false, due().ints(Feed.ONE).name("d"));
    Feed due = due().ints(Feed.SEVERAL, 3).name("d").name("c").name("a");
    written("three", x, false, true, due);
  }

  private static void stateInOrder() {
    check.about("then its STATE: its fields in order, a reference as a value");
    ValueStream x = typed("a", 1, 4);
    addType(x, "b", 0, 2);
    x.node(1);
    x.node(0);
    x.set(0, 0, 1);
    x.set(0, 1, 1);
    x.set(0, 2, 3);
    x.set(1, 0, 4);
    Feed due = due().ints(Feed.ONE).name("b").number(1, 2);
    written("b", x, false, false, due.ints(Feed.ONE).name("a").number(4, 2).ints(0, 3));
  }

  private static void lengthsOfNames() {
    check.about("A NAME is an int L, 2 .. 7, L - 1 letters and a byte 0");
    for (int count = 1; count <= 6; count++) {
      String name = "azbycx".substring(0, count);
      ValueStream x = typed(name);
      x.node(0);
      check.same("write", x.write(0, 0, false, false), 12 + count + 1);
      check.same("L", x.at(11), count + 1);
      for (int i = 0; i < count; i++) {
        check.same("letter " + i, x.at(12 + i), name.charAt(i));
      }
      check.same("0", x.at(12 + count), 0);
      check.same("read", x.read(), 1);
    }
  }

  private static void waysToNames() {
    check.about("or -1 and an int d: the name whose L stands at the place of that d plus d");
    ValueStream x = typed("abc", 4);
    addType(x, "d", 0);
    x.node(1);
    x.node(0);
    x.set(0, 0, 1);
    Feed due = due().ints(Feed.SEVERAL, 2).name("d").name("abc");
    due.ints(Feed.SEVERAL, 1, -1, 20 - 40, 0);
    written("to the second name", x, false, true, due);
    check.same("read", x.read(), 2);
    check.same("its type", x.get(3, -1), 0);
  }

  private static void sizesOfChunks() {
    check.about("an int, the SIZE, 1 or more, and so many bytes (fill and all)");
    int[] sizes = {1, 2, 4, 12};
    for (int kind = 0; kind < 4; kind++) {
      ValueStream x = typed("a", kind);
      x.node(0);
      x.set(0, 0, 9);
      Feed due = due().ints(Feed.ONE_CHUNKED).name("a").ints(sizes[kind]);
      written("kind " + kind, x, true, false, due.number(9, WIDTHS[kind]).ints(-1));
      check.same("read", x.read(), 1);
    }
    ValueStream x = typed("a", 0, 3, 0, 1);
    x.node(0);
    Feed due = due().ints(Feed.ONE_CHUNKED).name("a").ints(16).number(0, 1).number(0, 8);
    written("fill between", x, true, false, due.number(0, 1).number(0, 2).ints(-1));
  }

  private static void betweenChunks() {
    check.about("But a value with a tag stands between chunks:"
        + " those 0 and -1 are in chunks as numbers are.");
    ValueStream x = typed("a", 4, 4, 4);
    addType(x, "b", -1, 0);
    x.node(0);
    x.node(1);
    x.set(0, 1, 1);
    x.set(0, 2, 1);
    Feed due = due().ints(Feed.ONE_CHUNKED).name("a").ints(4, 0);
    due.ints(Feed.ONE_CHUNKED).name("b").ints(1).number(0, 1).ints(-2);
    written("0, a tag, -1", x, true, false, due.ints(8, -1, 24 - 56, -1));
    check.same("read", x.read(), 2);
    check.same("0", x.get(2, 0), -1);
    check.same("a tag", x.get(2, 1), 3);
    check.same("-1", x.get(2, 2), 3);
  }

  private static void chunkedInChunked() {
    check.about("A value in a chunked one is chunked.");
    for (int low : new int[] {2, 6, 10, 14}) {
      ValueStream x = typed("a", 4);
      Feed feed = new Feed(x, 0).ints(Feed.ONE_CHUNKED).name("a").ints(Feed.TAG + low);
      feed.ints(low % 8 == 6 ? new int[] {1} : new int[0]).back(8);
      if (low < 8) {
        check.malformed("one that is not", x, 16);
      } else {
        feed.ints(4, 0, -2, -1);
        check.same("one that is", x.read(), 0);
      }
    }
    ValueStream x = typed("a", 4);
    addChain(x, 3);
    Feed due = due().ints(Feed.ONE_CHUNKED).name("a").ints(Feed.ONE_CHUNKED).back(8);
    due.ints(Feed.ONE_CHUNKED).back(8).ints(4, 0, -3, -2, -1);
    written("all of three", x, true, false, due);
  }

  private static void levels() {
    check.about("Behind the state stands an END, an int: less the LEVEL,"
        + " which is how many chunked values are open, this one too.");
    ValueStream x = typed("a", 4);
    addChain(x, 12);
    int size = x.write(0, 1, true, false);
    for (int level = 1; level <= 12; level++) {
      check.same("END " + level, x.at(size - 4 * level), 256 - level);
      check.same("its highest byte", x.at(size - 4 * level + 3), 255);
    }
    check.same("read", x.read(), 12);
    ValueStream y = typed("a", 4, 4);
    y.node(0);
    y.node(0);
    y.node(0);
    y.set(0, 0, 1);
    y.set(0, 1, 2);
    Feed due = due().ints(Feed.ONE_CHUNKED).name("a");
    due.ints(Feed.ONE_CHUNKED).back(8).ints(8, 0, 0, -2);
    due.ints(Feed.ONE_CHUNKED).back(8).ints(8, 0, 0, -2);
    written("values that are not open any more", y, true, false, due.ints(-1));
  }

  private static void endsOfChunks() {
    check.about("Chunks end where a value with a tag, or the END comes (before its fill).");
    ValueStream x = typed("a", 0, 4, 1);
    x.node(0);
    x.node(0);
    x.set(0, 1, 1);
    Feed due = due().ints(Feed.ONE_CHUNKED).name("a").ints(1).number(0, 1);
    due.ints(Feed.ONE_CHUNKED).back(8).ints(10).number(0, 1).ints(0).number(0, 2).ints(-2);
    written("before a tag and an END", x, true, false, due.ints(2).number(0, 2).ints(-1));
  }

  private static void upToTheLastBase() {
    check.about("with one name or several (up to the type without a base)");
    ValueStream x = typed("a");
    addType(x, "b", -1);
    addType(x, "c", 1);
    x.node(2);
    x.known(1, false);
    written("two of three types", x, false, true, due().ints(Feed.SEVERAL, 2).name("c").name("b"));
    x.clear();
    x.node(1);
    written("one without a base", x, false, true, due().ints(Feed.SEVERAL, 1).name("b"));
    written("one name", x, false, false, due().ints(Feed.ONE).name("b"));
  }

  private static void writtenAlready() {
    check.about("Nodes that were written (or are being written) already are written as -1,"
        + " names likewise.");
    ValueStream x = typed("a", 4, 4, 4);
    addChain(x, 2);
    x.set(0, 1, 1);
    x.set(0, 2, 0);
    x.set(1, 0, 0);
    Feed due = due().ints(Feed.ONE).name("a").ints(Feed.ONE).back(8);
    written("nodes", x, false, false, due.back(4).ints(0, 0).back(16).back(4));
    written("all anew when written again", x, false, false, due);
    ValueStream y = typed("a", 4);
    addType(y, "b", 0);
    y.node(1);
    y.node(1);
    y.set(0, 0, 1);
    due = due().ints(Feed.SEVERAL, 2).name("b").name("a").ints(Feed.SEVERAL, 2);
    written("names", y, false, true, due.back(12).back(20).ints(0));
  }

  private static void beginsOfChunks() {
    check.about("A chunk is begun by the first number behind what is between chunks;"
        + " so a value without numbers has none.");
    ValueStream x = typed("a", 4, 0, 0);
    addType(x, "b", -1);
    x.node(0);
    x.node(1);
    x.set(0, 0, 1);
    x.set(0, 1, 7);
    Feed due = due().ints(Feed.ONE_CHUNKED).name("a").ints(Feed.ONE_CHUNKED).name("b").ints(-2);
    due.ints(2).number(7, 1).number(0, 1).ints(-1);
    written("no chunk before a tag", x, true, false, due);
    check.same("read", x.read(), 2);
  }
}
