import java.util.NoSuchElementException;

/** The boundary cases of promises 1 to 15, a sentence at a time. */
public final class PromisesTest {
  private static final Class<IllegalArgumentException> ARGUMENT = IllegalArgumentException.class;
  private static final Class<IllegalStateException> STATE = IllegalStateException.class;
  private static final Class<NoSuchElementException> MISSING = NoSuchElementException.class;
  private static final Class<UnsupportedOperationException> TOO_MUCH =
      UnsupportedOperationException.class;
  private static final int LEAST = Integer.MIN_VALUE;
  private static final int MOST = Integer.MAX_VALUE;

  private static final Check check = new Check("PromisesTest");

  public static void main(String[] args) {
    newObject();
    typeNames();
    typeRefusals();
    typeWhenFull();
    fieldAnswers();
    fieldRefusals();
    fieldWhenFull();
    fieldWhenThereAreNodes();
    fieldOfBase();
    knownRefusals();
    knownAndNot();
    nodeRefusals();
    nodeWhenFull();
    nodesCounted();
    setLowestBytes();
    setReferences();
    setOfNone();
    setToNone();
    getAnswers();
    getOfNone();
    clearAll();
    writeInPlace();
    writeOfUnknown();
    writeOfNone();
    writeOrders();
    writeTooManyBytes();
    writeTooDeep();
    sizes();
    bytesAt();
    feedAnswers();
    feedWidths();
    feedWhenFull();
    spoilAnswers();
    spoilOfNone();
    spoilWithNoByte();
    wipe();
    check.end();
  }

  /** One type a with fields of these kinds. */
  private static ValueStream typed(int... kinds) {
    ValueStream x = new ValueStream();
    x.type(1, -1);
    for (int kind : kinds) {
      x.field(0, kind);
    }
    return x;
  }

  private static void addNodes(ValueStream x, int howMany) {
    for (int i = 0; i < howMany; i++) {
      x.node(0);
    }
  }

  /** The bytes 1, 2, .., eight in a call. */
  private static void feedBytes(ValueStream x, int howMany) {
    for (int from = 0; from < howMany; from += 8) {
      long bytes = 0;
      for (int i = 7; i >= 0; i--) {
        bytes = bytes << 8 | from + i + 1 & 255;
      }
      x.feed(bytes, Math.min(howMany - from, 8));
    }
  }

  private static void newObject() {
    check.about("No types, nodes, bytes.");
    ValueStream x = new ValueStream();
    check.same("nodes", x.nodes(), 0);
    check.same("size", x.size(), 0);
    check.same("at", x.at(0), -1);
    check.fails("a node", ARGUMENT, () -> x.node(0));
    check.fails("a base", ARGUMENT, () -> x.type(1, 0));
    check.same("the first type", x.type(1, -1), 0);
    check.same("the first node", x.node(0), 0);
    ValueStream y = new ValueStream();
    check.fails("another object has none of them", ARGUMENT, () -> y.node(0));
    check.same("nor its nodes", y.nodes(), 0);
  }

  private static void typeNames() {
    check.about("A new type, with the name of the lowest letters of name"
        + " (five bits each, 1 for a, the first letter highest; no zeros between)");
    ValueStream x = new ValueStream();
    check.same("type", x.type(26 << 10 | 1 << 5 | 2, -1), 0);
    x.node(0);
    x.write(0, 0, false, false);
    check.same("the first letter", x.at(12), 'z');
    check.same("the second", x.at(13), 'a');
    check.same("the third", x.at(14), 'b');
    for (int zero = 0; zero < 25; zero += 5) {
      int name = Feed.letters("cccccc") & ~(31 << zero);
      check.fails("a zero at bit " + zero, ARGUMENT, () -> x.type(name, -1));
    }
    check.same("above six letters are none", x.type(0xC0000000 | Feed.letters("cccccc"), -1), 1);
    check.fails("and so it is the same name", ARGUMENT, () -> x.type(Feed.letters("cccccc"), -1));
    check.fails("none but above", ARGUMENT, () -> x.type(0xC0000000, -1));
  }

  private static void typeRefusals() {
    check.about("Throws IllegalArgumentException when name or base is none,"
        + " or the name is used");
    ValueStream x = typed();
    for (int name : new int[] {0, 27, 31, 32, -1, LEAST, MOST}) {
      check.fails("name " + name, ARGUMENT, () -> x.type(name, -1));
    }
    for (int base : new int[] {-2, 1, 7, 8, LEAST, MOST}) {
      check.fails("base " + base, ARGUMENT, () -> x.type(2, base));
    }
    check.fails("a used name", ARGUMENT, () -> x.type(1, -1));
    check.fails("a used name, with a base", ARGUMENT, () -> x.type(1, 0));
    check.same("the next type", x.type(2, -1), 1);
  }

  private static void typeWhenFull() {
    check.about("IllegalStateException when there are 8.");
    ValueStream x = new ValueStream();
    for (int i = 1; i <= 8; i++) {
      x.type(i, -1);
    }
    check.fails("without a base", STATE, () -> x.type(9, -1));
    check.fails("with one", STATE, () -> x.type(9, 7));
    check.fails("no name", ARGUMENT, () -> x.type(27, -1));
    check.fails("a used name", ARGUMENT, () -> x.type(8, -1));
    check.fails("no base", ARGUMENT, () -> x.type(9, 8));
    check.same("no base was made of the last", x.field(7, 0), 1);
  }

  private static void fieldAnswers() {
    check.about("Puts a field behind those of a type: how many own fields it has then.");
    ValueStream x = typed(0, 1, 2);
    check.same("the fourth", x.field(0, 3), 4);
    x.type(2, 0);
    check.same("the first own one", x.field(1, 4), 1);
    x.node(1);
    check.same("all", x.get(0, -2), 5);
    check.same("the last", x.get(0, 4), -1);
  }

  private static void fieldRefusals() {
    check.about("Throws IllegalArgumentException when there is no such type or kind");
    ValueStream x = typed();
    for (int none : new int[] {-1, 1, 8, LEAST, MOST}) {
      check.fails("type " + none, ARGUMENT, () -> x.field(none, 0));
    }
    for (int none : new int[] {-1, 5, LEAST, MOST}) {
      check.fails("kind " + none, ARGUMENT, () -> x.field(0, none));
    }
    check.same("none was put", x.field(0, 0), 1);
    x.node(0);
    check.fails("no type, and there are nodes", ARGUMENT, () -> x.field(1, 0));
    check.fails("no kind, and there are nodes", ARGUMENT, () -> x.field(0, 5));
  }

  private static void fieldWhenFull() {
    check.about("IllegalStateException when it has 4");
    ValueStream x = typed(0, 0, 0, 0);
    check.fails("a fifth", STATE, () -> x.field(0, 0));
    check.fails("again", STATE, () -> x.field(0, 4));
    x.node(0);
    check.same("none was put", x.get(0, -2), 4);
  }

  private static void fieldWhenThereAreNodes() {
    check.about("or there are nodes");
    ValueStream x = typed();
    x.type(2, -1);
    x.node(1);
    check.fails("of another type", STATE, () -> x.field(0, 0));
    check.fails("of this type", STATE, () -> x.field(1, 0));
    check.same("none was put", x.get(0, -2), 0);
    x.clear();
    check.same("when they are gone", x.field(1, 0), 1);
    new Feed(x, 0).ints(Feed.ONE).name("a");
    x.read();
    check.fails("one that was read", STATE, () -> x.field(1, 0));
    x.clear();
    new Feed(x, 0).ints(Feed.ONE).name("b");
    check.malformed("one that was not", x, 14);
    check.same("is none", x.field(1, 0), 2);
  }

  private static void fieldOfBase() {
    check.about("or another type has it as base");
    ValueStream x = typed(0);
    x.type(2, -1);
    x.type(3, 0);
    check.fails("a base", STATE, () -> x.field(0, 0));
    check.same("no base", x.field(1, 0), 1);
    check.same("what is on it", x.field(2, 0), 1);
    x.type(4, 2);
    check.fails("what is a base now", STATE, () -> x.field(2, 0));
    x.known(3, false);
    check.fails("a base of what is not known", STATE, () -> x.field(2, 0));
  }

  private static void knownAndNot() {
    check.about("A type is known, or not.");
    ValueStream x = typed();
    x.type(2, -1);
    new Feed(x, 0).ints(Feed.ONE).name("a");
    x.known(1, false);
    check.same("another one is not", x.read(), 0);
    x.known(0, false);
    x.known(0, false);
    check.malformed("it is not", x, 8);
    x.known(0, true);
    check.same("it is again", x.read(), 1);
    x.known(0, true);
    check.same("and still", x.read(), 2);
  }

  private static void knownRefusals() {
    check.about("Throws IllegalArgumentException when there is no such type.");
    ValueStream x = typed();
    for (int none : new int[] {-1, 1, 7, 8, LEAST, MOST}) {
      check.fails("known " + none, ARGUMENT, () -> x.known(none, true));
      check.fails("not known " + none, ARGUMENT, () -> x.known(none, false));
    }
    x.type(2, -1);
    new Feed(x, 0).ints(Feed.ONE).name("b");
    check.same("a type that was none then", x.read(), 0);
  }

  private static void nodeRefusals() {
    check.about("Throws IllegalArgumentException when there is no such type");
    ValueStream x = typed();
    for (int none : new int[] {-1, 1, 8, LEAST, MOST}) {
      check.fails("node of " + none, ARGUMENT, () -> x.node(none));
    }
    check.same("none was made", x.nodes(), 0);
  }

  private static void nodeWhenFull() {
    check.about("IllegalStateException when there are 24.");
    ValueStream x = typed();
    addNodes(x, 23);
    check.same("the last", x.node(0), 23);
    check.fails("one more", STATE, () -> x.node(0));
    check.fails("one more of no type", ARGUMENT, () -> x.node(1));
    check.same("nodes", x.nodes(), 24);
    x.clear();
    check.same("when they are gone", x.node(0), 0);
  }

  private static void nodesCounted() {
    check.about("How many nodes there are.");
    ValueStream x = typed();
    check.same("none", x.nodes(), 0);
    x.node(0);
    check.same("one", x.nodes(), 1);
    x.write(0, 0, false, false);
    x.read();
    check.same("one that was read, too", x.nodes(), 2);
    addNodes(x, 22);
    check.same("all", x.nodes(), 24);
    x.clear();
    check.same("none again", x.nodes(), 0);
  }

  private static void setLowestBytes() {
    check.about("Field k of a node becomes v: as many of its lowest bytes as the kind has,"
        + " with sign");
    int[] bits = {8, 16, 32, 64};
    for (int k = 0; k < 4; k++) {
      ValueStream x = typed(0, 1, 2, 3);
      addNodes(x, 2);
      for (int bit = 0; bit < 64; bit++) {
        for (long v : new long[] {1L << bit, (1L << bit) - 1, -1L << bit}) {
          x.set(1, k, v);
          int above = 64 - bits[k];
          check.same("set(1, " + k + ", " + v + ")", x.get(1, k), v << above >> above);
        }
      }
      check.same("of the other node", x.get(0, k), 0);
    }
    ValueStream x = typed(0);
    addNodes(x, 1);
    x.set(0, 0, 128);
    check.same("the first of a byte below 0", x.get(0, 0), -128);
    x.set(0, 0, 256);
    check.same("what is above a byte", x.get(0, 0), 0);
  }

  private static void setReferences() {
    check.about("for a reference a node or -1");
    ValueStream x = typed(4);
    addNodes(x, 24);
    for (int node = 0; node < 24; node++) {
      x.set(5, 0, node);
      check.same("to a node", x.get(5, 0), node);
    }
    x.set(5, 0, -1);
    check.same("to none", x.get(5, 0), -1);
  }

  private static void setOfNone() {
    check.about("Throws NoSuchElementException when there is no such node or field");
    ValueStream x = typed(4, 0);
    x.node(0);
    for (int none : new int[] {-1, 1, 23, 24, LEAST, MOST}) {
      check.fails("node " + none, MISSING, () -> x.set(none, 0, -1));
      check.fails("node " + none + ", to none", MISSING, () -> x.set(none, 0, 9));
    }
    for (int none : new int[] {-1, -2, -3, 2, 4, 32, LEAST, MOST}) {
      check.fails("field " + none, MISSING, () -> x.set(0, none, 0));
    }
    x.clear();
    check.fails("a node that was", MISSING, () -> x.set(0, 0, -1));
  }

  private static void setToNone() {
    check.about("IllegalArgumentException when a reference is to none.");
    ValueStream x = typed(4);
    addNodes(x, 2);
    x.set(0, 0, 1);
    long[] nones = {-2, 2, 23, 24, LEAST, MOST, 0xFFFFFFFFL, 1L << 32, Long.MIN_VALUE,
        Long.MAX_VALUE};
    for (long none : nones) {
      check.fails("to " + none, ARGUMENT, () -> x.set(0, 0, none));
      check.same("it stays", x.get(0, 0), 1);
    }
  }

  private static void getAnswers() {
    check.about("Field k of a node; -1 the node's type, -2 how many fields it has.");
    ValueStream x = typed(0, 4);
    x.type(2, 0);
    x.field(1, 3);
    x.type(3, -1);
    addNodes(x, 1);
    x.node(1);
    x.node(2);
    x.set(1, 2, Long.MIN_VALUE);
    check.same("the last field", x.get(1, 2), Long.MIN_VALUE);
    for (int node = 0; node < 3; node++) {
      check.same("type of " + node, x.get(node, -1), node);
    }
    check.same("fields of a", x.get(0, -2), 2);
    check.same("fields of b", x.get(1, -2), 3);
    check.same("fields of c", x.get(2, -2), 0);
  }

  private static void getOfNone() {
    check.about("Throws NoSuchElementException when there is none.");
    ValueStream x = typed(4, 0);
    x.type(2, -1);
    x.node(0);
    x.node(1);
    for (int none : new int[] {-1, 2, 23, 24, LEAST, MOST}) {
      for (int k = -2; k <= 0; k++) {
        int field = k;
        check.fails("node " + none + ", " + k, MISSING, () -> x.get(none, field));
      }
    }
    for (int none : new int[] {-3, 2, 4, 32, LEAST, MOST}) {
      check.fails("field " + none, MISSING, () -> x.get(0, none));
    }
    check.fails("a node without fields", MISSING, () -> x.get(1, 0));
  }

  private static void clearAll() {
    check.about("Takes all nodes away. (The next one is 0 again; the stream stays.)");
    ValueStream x = typed(0);
    x.clear();
    check.same("of none", x.nodes(), 0);
    addNodes(x, 24);
    x.write(3, 1, false, false);
    x.clear();
    check.same("of all", x.nodes(), 0);
    check.fails("the first", MISSING, () -> x.get(0, -1));
    check.same("size", x.size(), 15);
    check.same("at", x.at(12), 'a');
    check.same("the types stay", x.node(0), 0);
    check.same("read", x.read(), 1);
  }

  private static void writeInPlace() {
    check.about("Writes from a node (in place of the stream that was): how many bytes.");
    ValueStream x = typed(0);
    addNodes(x, 1);
    feedBytes(x, 600);
    check.same("a shorter one", x.write(0, 0, false, false), 15);
    check.same("size", x.size(), 15);
    check.same("at(0)", x.at(0), 0);
    check.same("behind it", x.at(15), -1);
    check.same("a longer one", x.write(0, 1, true, true), 32);
    check.same("at(0) then", x.at(0), 1);
    check.same("size then", x.size(), 32);
    check.same("nodes", x.nodes(), 1);
  }

  private static void writeOfUnknown() {
    check.about("(Types need not be known for that.)");
    ValueStream x = typed();
    x.type(2, 0);
    x.node(1);
    int bytes = x.write(0, 0, true, true);
    x.known(0, false);
    x.known(1, false);
    check.same("the same", x.write(0, 0, true, true), bytes);
    check.same("n", x.at(11), 2);
    check.same("its name", x.at(16), 'b');
  }

  private static void writeOfNone() {
    check.about("Throws NoSuchElementException when there is no such node");
    ValueStream x = typed();
    feedBytes(x, 3);
    check.fails("there are none", MISSING, () -> x.write(0, 0, false, false));
    x.node(0);
    for (int none : new int[] {-1, 1, 23, 24, LEAST, MOST}) {
      check.fails("node " + none, MISSING, () -> x.write(none, 0, true, false));
      check.fails("node " + none + " in no order", MISSING, () -> x.write(none, 2, true, false));
    }
    check.same("the stream stays", x.size(), 3);
  }

  private static void writeOrders() {
    check.about("IllegalArgumentException when order is not 0 or 1");
    ValueStream x = typed();
    x.node(0);
    feedBytes(x, 3);
    for (int order : new int[] {-1, 2, 256, 257, LEAST, MOST}) {
      check.fails("order " + order, ARGUMENT, () -> x.write(0, order, false, true));
    }
    check.same("the stream stays", x.size(), 3);
    check.same("order 0", x.write(0, 0, false, false), 14);
    check.same("order 1", x.write(0, 1, false, false), 14);
  }

  /**
   * A root with up to four references, then up to eight fields of these kinds. Not chunked,
   * those behind four references stand from 592 on; chunked, those behind three from 568 on.
   */
  private static ValueStream rooted(int references, int... behind) {
    ValueStream x = new ValueStream();
    int type = x.type(1, -1);
    for (int i = 0; i < references; i++) {
      x.field(type, 4);
    }
    for (int i = 0; i < behind.length; i++) {
      type = i % 4 == 0 ? x.type(type + 2, type) : type;
      x.field(type, behind[i]);
    }
    int root = type;
    for (int i = 0; i < 5; i++) {
      type = x.type(type + 2, i == 0 ? -1 : type);
      for (int k = 0; k < 4; k++) {
        x.field(type, 3);
      }
    }
    x.node(root);
    for (int i = 0; i < references; i++) {
      x.set(0, i, x.node(i < 3 ? type : root + 1));
    }
    return x;
  }

  private static void writeTooManyBytes() {
    check.about("UnsupportedOperationException when there would be more than 600 bytes");
    check.same("592", rooted(4).write(0, 0, false, false), 592);
    check.same("600", rooted(4, 3).write(0, 0, false, false), 600);
    check.same("600 by bytes", rooted(4, 2, 1, 0, 0).write(0, 1, false, false), 600);
    check.same("599", rooted(4, 2, 1, 0).write(0, 1, false, false), 599);
    refused("601", rooted(4, 3, 0), false);
    refused("601 by bytes", rooted(4, 2, 1, 0, 0, 0), false);
    refused("602", rooted(4, 2, 2, 1), false);
    refused("604", rooted(4, 3, 2), false);
    refused("604, of which three are fill", rooted(4, 2, 0, 2), false);
    refused("608", rooted(4, 3, 3), false);
    check.same("600 in chunks", rooted(3, 3, 3, 3, 2).write(0, 0, true, false), 600);
    check.same("600, with fill", rooted(3, 3, 3, 3, 0).write(0, 0, true, false), 600);
    refused("only the END is too much", rooted(3, 3, 3, 3, 2, 0), true);
    refused("a number and the END are", rooted(3, 3, 3, 3, 3, 3), true);
    refused("the same in chunks", rooted(4, 3), true);
  }

  private static void refused(String what, ValueStream x, boolean chunked) {
    check.fails(what, TOO_MUCH, () -> x.write(0, 0, chunked, false));
    check.same(what + ": nothing is written", x.size(), 0);
    feedBytes(x, 600);
    check.fails(what, TOO_MUCH, () -> x.write(0, 1, chunked, false));
    check.same(what + ": the stream stays", x.size(), 600);
    for (int i = 0; i < 600; i += 3) {
      check.same(what + ": at(" + i + ")", x.at(i), i + 1 & 255);
    }
    x.set(0, 0, -1);
    check.holds(what + ": less is written", x.write(0, 0, chunked, false) < 600);
  }

  private static void writeTooDeep() {
    check.about("or values more than 12 deep in one another (then the stream stays)");
    ValueStream x = typed(4, 4);
    addNodes(x, 14);
    for (int i = 1; i < 13; i++) {
      x.set(i - 1, i % 2, i);
    }
    x.set(12, 0, 13);
    feedBytes(x, 2);
    for (int from = 0; from < 2; from++) {
      int node = from;
      check.fails("13 or more", TOO_MUCH, () -> x.write(node, 0, false, false));
      check.fails("in chunks", TOO_MUCH, () -> x.write(node, 1, true, true));
      check.same("size", x.size(), 2);
      check.same("at(0)", x.at(0), 1);
    }
    check.holds("12", x.write(2, 0, true, true) > 0);
    x.set(13, 0, 2);
    x.set(13, 1, 13);
    check.holds("12 and ways back", x.write(2, 0, false, false) > 0);
    x.set(2, 0, 12);
    check.holds("12, as the last two were written before", x.write(0, 0, false, false) > 0);
    x.set(2, 0, 3);
    x.set(2, 1, 12);
    check.fails("14, as they were not", TOO_MUCH, () -> x.write(0, 0, false, false));
  }

  private static void sizes() {
    check.about("How many bytes the stream has.");
    ValueStream x = new ValueStream();
    check.same("none", x.size(), 0);
    for (int i = 1; i <= 75; i++) {
      x.feed(0, 8);
      check.same("fed", x.size(), 8 * i);
    }
    x.feed(0, 1);
    check.same("full", x.size(), 600);
    x.spoil(0, 1);
    check.same("spoilt", x.size(), 600);
    x.wipe();
    check.same("wiped", x.size(), 0);
  }

  private static void bytesAt() {
    check.about("Byte i of the stream, 0 .. 255; -1 when there is none.");
    ValueStream x = new ValueStream();
    feedBytes(x, 256);
    for (int i = 0; i < 256; i++) {
      check.same("at(" + i + ")", x.at(i), i + 1 & 255);
    }
    for (int none : new int[] {-1, 256, 599, 600, LEAST, MOST}) {
      check.same("at(" + none + ")", x.at(none), -1);
    }
    x.wipe();
    check.same("of what was", x.at(255), -1);
    feedBytes(x, 600);
    check.same("the last of 600", x.at(599), 600 & 255);
    check.same("behind it", x.at(600), -1);
  }

  private static void feedAnswers() {
    check.about("Puts the lowest n bytes of v behind the stream, the lowest first: true");
    for (int n = 1; n <= 8; n++) {
      ValueStream x = new ValueStream();
      x.feed(9, 1);
      check.holds("feed", x.feed(0x8877665544332211L, n));
      check.same("size", x.size(), n + 1);
      check.same("what was", x.at(0), 9);
      for (int i = 0; i < n; i++) {
        check.same("byte " + i, x.at(i + 1), 0x11 * (i + 1));
      }
    }
  }

  private static void feedWidths() {
    check.about("false when n is not 1 .. 8");
    ValueStream x = new ValueStream();
    for (int n : new int[] {0, 9, -1, -8, LEAST, MOST}) {
      check.holds("n " + n, !x.feed(-1, n));
    }
    check.same("size", x.size(), 0);
  }

  private static void feedWhenFull() {
    check.about("or there would be more than 600");
    for (int room = 0; room < 9; room++) {
      for (int n = 1; n <= 8; n++) {
        ValueStream x = new ValueStream();
        feedBytes(x, 600 - room);
        check.holds(n + " bytes, room for " + room, x.feed(-1, n) == n <= room);
        check.same("size", x.size(), n <= room ? 600 - room + n : 600 - room);
        check.same("the last", x.at(x.size() - 1), n <= room ? 255 : 600 - room & 255);
      }
    }
  }

  private static void spoilAnswers() {
    check.about("Byte i of the stream becomes v.");
    ValueStream x = new ValueStream();
    feedBytes(x, 600);
    for (int i : new int[] {0, 1, 598, 599}) {
      for (int v : new int[] {0, 127, 128, 255}) {
        x.spoil(i, v);
        check.same("at(" + i + ")", x.at(i), v);
      }
    }
    check.same("at(2)", x.at(2), 3);
    check.same("size", x.size(), 600);
  }

  private static void spoilOfNone() {
    check.about("Throws NoSuchElementException when there is none");
    ValueStream x = new ValueStream();
    check.fails("of no bytes", MISSING, () -> x.spoil(0, 0));
    feedBytes(x, 4);
    for (int none : new int[] {-1, 4, 599, 600, LEAST, MOST}) {
      check.fails("byte " + none, MISSING, () -> x.spoil(none, 0));
      check.fails("byte " + none + ", no byte", MISSING, () -> x.spoil(none, 256));
    }
    check.same("size", x.size(), 4);
    x.wipe();
    check.fails("what was", MISSING, () -> x.spoil(3, 0));
  }

  private static void spoilWithNoByte() {
    check.about("IllegalArgumentException when v is not 0 .. 255.");
    ValueStream x = new ValueStream();
    feedBytes(x, 4);
    for (int v : new int[] {-1, 256, -128, LEAST, MOST}) {
      check.fails("v " + v, ARGUMENT, () -> x.spoil(2, v));
    }
    check.same("it stays", x.at(2), 3);
  }

  private static void wipe() {
    check.about("The stream is empty.");
    ValueStream x = typed();
    x.wipe();
    check.same("of none", x.size(), 0);
    feedBytes(x, 600);
    x.node(0);
    x.wipe();
    check.same("of 600", x.size(), 0);
    check.same("at(0)", x.at(0), -1);
    check.malformed("nothing to read", x, 0);
    check.same("the nodes stay", x.nodes(), 1);
    check.holds("room for all again", x.feed(5, 8));
    check.same("from the front", x.at(0), 5);
  }
}
