import java.util.Arrays;
import java.util.NoSuchElementException;

/**
 * Graphs of values, written as rows of bytes and read again.
 *
 * <p>The types, the nodes, the stream, the writing and the reading each have a class of their own
 * inside; the methods here look at the arguments and hand the work on.
 */
public final class ValueStream {
  private static final int MOST_TYPES = 8;
  private static final int MOST_OWN_FIELDS = 4;
  private static final int MOST_FIELDS = MOST_TYPES * MOST_OWN_FIELDS;
  private static final int MOST_NODES = 24;
  private static final int MOST_BYTES = 600;
  private static final int MOST_DEPTH = 12;
  private static final int MOST_NAMES = 8;
  private static final int MOST_LETTERS = 6;

  private static final int LETTER_BITS = 5;
  private static final int LETTER_MASK = (1 << LETTER_BITS) - 1;
  private static final int NAME_MASK = (1 << LETTER_BITS * MOST_LETTERS) - 1;
  private static final int LAST_LETTER = 26;
  private static final int BEFORE_A = 'a' - 1;

  private static final int REFERENCE = 4;
  private static final int[] WIDTHS = {1, 2, 4, 8};
  private static final int INT = 4;
  private static final int WIDEST = 8;

  private static final int NONE = -1;
  private static final int NOWHERE = -1;
  private static final int LOWEST_FIRST = 1;

  private static final int NO_VALUE = 0;
  private static final int BACK = -1;
  private static final int TAGS = 0x7FFFFF00;
  private static final int ONE_NAME = 2;
  private static final int SEVERAL_NAMES = 6;
  private static final int CHUNKED = 8;

  private final Types types;
  private final Graph graph;
  private final Row stream;
  private final Writer writer;
  private final Reader reader;

  public ValueStream() {
    types = new Types();
    graph = new Graph(types);
    stream = new Row();
    writer = new Writer(types, graph);
    reader = new Reader(types, graph, stream);
  }

  public int type(int name, int base) throws IllegalArgumentException, IllegalStateException {
    // The two bits above six letters are part of none: only the lowest letters count.
    int letters = name & NAME_MASK;
    if (!isName(letters) || types.named(letters) != NONE) {
      throw new IllegalArgumentException("no name, or one that is used");
    }
    if (base != NONE && !types.has(base)) {
      throw new IllegalArgumentException("no such base");
    }
    if (types.count() == MOST_TYPES) {
      throw new IllegalStateException("no room for a type");
    }
    return types.add(letters, base);
  }

  public int field(int type, int kind) throws IllegalArgumentException, IllegalStateException {
    if (!types.has(type) || kind < 0 || kind > REFERENCE) {
      throw new IllegalArgumentException("no such type or kind");
    }
    if (graph.count() > 0 || !types.takesField(type)) {
      throw new IllegalStateException("the type's fields are fixed");
    }
    return types.addField(type, kind);
  }

  public void known(int type, boolean is) throws IllegalArgumentException {
    if (!types.has(type)) {
      throw new IllegalArgumentException("no such type");
    }
    types.setKnown(type, is);
  }

  public int node(int type) throws IllegalArgumentException, IllegalStateException {
    if (!types.has(type)) {
      throw new IllegalArgumentException("no such type");
    }
    int node = graph.count();
    if (node == MOST_NODES) {
      throw new IllegalStateException("no room for a node");
    }
    graph.lay(node, type);
    graph.keep(node + 1);
    return node;
  }

  public int nodes() {
    return graph.count();
  }

  public void set(int node, int k, long v) throws NoSuchElementException, IllegalArgumentException {
    if (!hasField(node, k)) {
      throw new NoSuchElementException("no such node or field");
    }
    int kind = types.kindOf(graph.typeOf(node), k);
    if (kind != REFERENCE) {
      graph.put(node, k, withSign(v, WIDTHS[kind]));
      return;
    }
    if (v != NONE && !graph.has(v)) {
      throw new IllegalArgumentException("no such node to refer to");
    }
    graph.put(node, k, v);
  }

  public long get(int node, int k) throws NoSuchElementException {
    if (graph.has(node) && k == -1) {
      return graph.typeOf(node);
    }
    if (graph.has(node) && k == -2) {
      return types.fieldsOf(graph.typeOf(node));
    }
    if (!hasField(node, k)) {
      throw new NoSuchElementException("no such node or field");
    }
    return graph.valueOf(node, k);
  }

  public void clear() {
    graph.keep(0);
  }

  public int write(int node, int order, boolean chunked, boolean several)
      throws NoSuchElementException, IllegalArgumentException, UnsupportedOperationException {
    if (!graph.has(node)) {
      throw new NoSuchElementException("no such node");
    }
    if (order < 0 || order > LOWEST_FIRST) {
      throw new IllegalArgumentException("no such order");
    }
    stream.copyOf(writer.draw(node, order, chunked, several));
    return stream.length();
  }

  public int size() {
    return stream.length();
  }

  public int at(int i) {
    return stream.holds(i, 1) ? stream.byteAt(i) : NONE;
  }

  public boolean feed(long v, int n) {
    if (n < 1 || n > WIDEST || n > MOST_BYTES - stream.length()) {
      return false;
    }
    for (int i = 0; i < n; i++) {
      stream.append((int) (v >> 8 * i));
    }
    return true;
  }

  public void spoil(int i, int v) throws NoSuchElementException, IllegalArgumentException {
    if (!stream.holds(i, 1)) {
      throw new NoSuchElementException("no such byte");
    }
    if (v < 0 || v > 255) {
      throw new IllegalArgumentException("no byte");
    }
    stream.change(i, v);
  }

  public void wipe() {
    stream.empty();
  }

  public int read() throws UnsupportedOperationException {
    try {
      return reader.takeAll();
    } catch (IllegalStateException malformed) {
      return -2 - reader.fault();
    }
  }

  private boolean hasField(int node, int k) {
    return graph.has(node) && k >= 0 && k < types.fieldsOf(graph.typeOf(node));
  }

  /** A zero before the last letter shows as a letter out of bounds: what is above it is not 0. */
  private static boolean isName(int letters) {
    int rest = letters;
    for (int i = 0; i < MOST_LETTERS && rest != 0; i++) {
      int letter = rest & LETTER_MASK;
      if (letter < 1 || letter > LAST_LETTER) {
        return false;
      }
      rest >>>= LETTER_BITS;
    }
    return letters != 0;
  }

  private static int letterCount(int letters) {
    int count = 0;
    for (int i = 0; i < MOST_LETTERS; i++) {
      if (letters >>> LETTER_BITS * i != 0) {
        count++;
      }
    }
    return count;
  }

  /** The first place from this one on where a number of so many bytes may stand. */
  private static int aligned(int place, int width) {
    return (place + width - 1) & -width;
  }

  private static long withSign(long value, int width) {
    int above = 8 * (WIDEST - width);
    return value << above >> above;
  }

  /** The types; a name is held as its letters, five bits each. */
  private static final class Types {
    private final int[] names = new int[MOST_TYPES];
    private final int[] bases = new int[MOST_TYPES];
    private final int[] ownFields = new int[MOST_TYPES];
    private final int[] allFields = new int[MOST_TYPES];
    private final int[] kinds = new int[MOST_TYPES * MOST_FIELDS];
    private final boolean[] isKnown = new boolean[MOST_TYPES];
    private final boolean[] isBase = new boolean[MOST_TYPES];
    private int count;

    int count() {
      return count;
    }

    boolean has(int type) {
      return type >= 0 && type < count;
    }

    int add(int letters, int base) {
      int type = count;
      count++;
      names[type] = letters;
      bases[type] = base;
      isKnown[type] = true;
      if (base != NONE) {
        // A base takes no more fields, so a copy of them stays right.
        isBase[base] = true;
        allFields[type] = allFields[base];
        System.arraycopy(
            kinds, base * MOST_FIELDS, kinds, type * MOST_FIELDS, allFields[base]);
      }
      return type;
    }

    boolean takesField(int type) {
      return !isBase[type] && ownFields[type] < MOST_OWN_FIELDS;
    }

    int addField(int type, int kind) {
      kinds[type * MOST_FIELDS + allFields[type]] = kind;
      allFields[type]++;
      ownFields[type]++;
      return ownFields[type];
    }

    int fieldsOf(int type) {
      return allFields[type];
    }

    int kindOf(int type, int k) {
      return kinds[type * MOST_FIELDS + k];
    }

    int baseOf(int type) {
      return bases[type];
    }

    int nameOf(int type) {
      return names[type];
    }

    void setKnown(int type, boolean is) {
      isKnown[type] = is;
    }

    int named(int letters) {
      for (int type = 0; type < count; type++) {
        if (names[type] == letters) {
          return type;
        }
      }
      return NONE;
    }

    int knownNamed(int letters) {
      int type = named(letters);
      return type != NONE && isKnown[type] ? type : NONE;
    }

    /** How many names there are from a type up to the one without a base. */
    int namesFrom(int type) {
      int names = 0;
      int from = type;
      for (int i = 0; i < MOST_TYPES && from != NONE; i++) {
        names++;
        from = bases[from];
      }
      return names;
    }
  }

  /** The nodes; those behind the count may be laid already, and are none until they are kept. */
  private static final class Graph {
    private final Types types;
    private final int[] typeNumbers = new int[MOST_NODES];
    private final long[] values = new long[MOST_NODES * MOST_FIELDS];
    private int count;

    Graph(Types types) {
      this.types = types;
    }

    int count() {
      return count;
    }

    boolean has(long node) {
      return node >= 0 && node < count;
    }

    void lay(int node, int type) {
      typeNumbers[node] = type;
      for (int k = 0; k < types.fieldsOf(type); k++) {
        put(node, k, types.kindOf(type, k) == REFERENCE ? NONE : 0);
      }
    }

    void keep(int howMany) {
      count = howMany;
    }

    int typeOf(int node) {
      return typeNumbers[node];
    }

    long valueOf(int node, int k) {
      return values[node * MOST_FIELDS + k];
    }

    void put(int node, int k, long value) {
      values[node * MOST_FIELDS + k] = value;
    }
  }

  /** A row of bytes; the first one tells the order of the bytes of its numbers. */
  private static final class Row {
    private final byte[] bytes = new byte[MOST_BYTES];
    private int length;

    int length() {
      return length;
    }

    boolean holds(int place, int width) {
      return place >= 0 && place <= length - width;
    }

    int byteAt(int place) {
      return bytes[place] & 255;
    }

    void change(int place, int value) {
      bytes[place] = (byte) value;
    }

    void append(int value) {
      bytes[length] = (byte) value;
      length++;
    }

    void empty() {
      length = 0;
    }

    void copyOf(Row other) {
      System.arraycopy(other.bytes, 0, bytes, 0, other.length);
      length = other.length;
    }

    void fillUpTo(int place) {
      for (int i = length; i < place; i++) {
        append(0);
      }
    }

    void appendNumber(long value, int width) {
      length += width;
      changeNumber(length - width, value, width);
    }

    void changeNumber(int place, long value, int width) {
      boolean lowestFirst = bytes[0] == LOWEST_FIRST;
      int lowest = lowestFirst ? place : place + width - 1;
      int step = lowestFirst ? 1 : -1;
      for (int i = 0; i < width; i++) {
        bytes[lowest + step * i] = (byte) (value >> 8 * i);
      }
    }

    long number(int place, int width) {
      boolean lowestFirst = bytes[0] == LOWEST_FIRST;
      int highest = lowestFirst ? place + width - 1 : place;
      int step = lowestFirst ? -1 : 1;
      // The highest byte brings the sign.
      long value = bytes[highest];
      for (int i = 1; i < width; i++) {
        value = value << 8 | bytes[highest + step * i] & 255;
      }
      return value;
    }
  }

  /** Writes into a row of its own, so that the stream stays when the graph is too much for it. */
  private static final class Writer {
    private final Types types;
    private final Graph graph;
    private final Row draft = new Row();
    private final int[] tagPlaces = new int[MOST_NODES];
    private final int[] namePlaces = new int[MOST_TYPES];
    private boolean chunked;
    private boolean several;
    private int sizePlace;

    Writer(Types types, Graph graph) {
      this.types = types;
      this.graph = graph;
    }

    Row draw(int node, int order, boolean inChunks, boolean allNames) {
      Arrays.fill(tagPlaces, NOWHERE);
      Arrays.fill(namePlaces, NOWHERE);
      chunked = inChunks;
      several = allNames;
      sizePlace = NOWHERE;
      draft.empty();
      draft.append(order);
      putTagged(node, 1);
      return draft;
    }

    private void putTagged(int node, int depth) {
      if (depth > MOST_DEPTH) {
        throw new UnsupportedOperationException("values too deep in one another");
      }
      endChunk();
      int tag = TAGS + (several ? SEVERAL_NAMES : ONE_NAME) + (chunked ? CHUNKED : 0);
      tagPlaces[node] = putNumber(tag, INT);
      putNames(graph.typeOf(node));
      putState(node, depth);
      if (chunked) {
        endChunk();
        // All values are chunked then, so the level is the depth.
        putNumber(-depth, INT);
      }
    }

    private void putNames(int type) {
      int count = several ? types.namesFrom(type) : 1;
      if (several) {
        putNumber(count, INT);
      }
      int from = type;
      for (int i = 0; i < count; i++) {
        putName(from);
        from = types.baseOf(from);
      }
    }

    private void putName(int type) {
      if (namePlaces[type] != NOWHERE) {
        putNumber(BACK, INT);
        putNumber(namePlaces[type] - draft.length(), INT);
        return;
      }
      int letters = types.nameOf(type);
      int count = letterCount(letters);
      namePlaces[type] = putNumber(count + 1, INT);
      for (int i = count - 1; i >= 0; i--) {
        putNumber(BEFORE_A + (letters >>> LETTER_BITS * i & LETTER_MASK), 1);
      }
      putNumber(0, 1);
    }

    private void putState(int node, int depth) {
      int type = graph.typeOf(node);
      for (int k = 0; k < types.fieldsOf(type); k++) {
        int kind = types.kindOf(type, k);
        if (kind == REFERENCE) {
          putReference((int) graph.valueOf(node, k), depth + 1);
        } else {
          putInState(graph.valueOf(node, k), WIDTHS[kind]);
        }
      }
    }

    private void putReference(int node, int depth) {
      if (node == NONE) {
        putInState(NO_VALUE, INT);
      } else if (tagPlaces[node] == NOWHERE) {
        putTagged(node, depth);
      } else {
        putInState(BACK, INT);
        putInState(tagPlaces[node] - draft.length(), INT);
      }
    }

    private void putInState(long value, int width) {
      if (chunked && sizePlace == NOWHERE) {
        sizePlace = putNumber(0, INT);
      }
      putNumber(value, width);
    }

    /** The size is known only here, so it stands as 0 up to then. */
    private void endChunk() {
      if (sizePlace != NOWHERE) {
        draft.changeNumber(sizePlace, draft.length() - sizePlace - INT, INT);
        sizePlace = NOWHERE;
      }
    }

    private int putNumber(long value, int width) {
      int place = aligned(draft.length(), width);
      if (place > MOST_BYTES - width) {
        throw new UnsupportedOperationException("too many bytes");
      }
      draft.fillUpTo(place);
      draft.appendNumber(value, width);
      return place;
    }
  }

  /**
   * Reads the stream. Its nodes are laid behind those that are there and kept only at the end, so
   * that none is made when the reading stops on the way.
   *
   * <p>A level is how many chunked values are open: above 0 the value that is read is chunked,
   * since in a chunked one there are no others.
   */
  private static final class Reader {
    private final Types types;
    private final Graph graph;
    private final Row stream;
    private final int[] tagPlaces = new int[MOST_NODES];
    private final int[] namesByPlace = new int[MOST_BYTES];
    private int place;
    private int chunkEnd;
    private int laid;
    private int unknownNames;
    private int fault;

    Reader(Types types, Graph graph, Row stream) {
      this.types = types;
      this.graph = graph;
      this.stream = stream;
    }

    /** Where the stream was found malformed. */
    int fault() {
      return fault;
    }

    int takeAll() {
      Arrays.fill(namesByPlace, 0);
      need(stream.holds(0, 1) && stream.byteAt(0) <= LOWEST_FIRST, 0);
      place = 1;
      chunkEnd = NOWHERE;
      laid = graph.count();
      int node = takeValue(1, 0);
      graph.keep(laid);
      return node;
    }

    private void need(boolean holds, int where) {
      if (!holds) {
        fault = where;
        throw new IllegalStateException("malformed");
      }
    }

    private int takeValue(int depth, int level) {
      if (chunkEnd == NOWHERE && nextInt() >= TAGS) {
        return takeNode(depth, level);
      }
      int first = (int) takeOfState(INT, level);
      if (first == NO_VALUE) {
        return NONE;
      }
      need(first == BACK, place - INT);
      int back = (int) takeOfState(INT, level);
      return nodeTaggedAt(place - INT + back);
    }

    private int nodeTaggedAt(int tagPlace) {
      for (int node = graph.count(); node < laid; node++) {
        if (tagPlaces[node] == tagPlace) {
          return node;
        }
      }
      need(false, place - INT);
      return NONE;
    }

    private int takeNode(int depth, int level) {
      int tag = takeTag(depth, level);
      int node = laid;
      need(node < MOST_NODES, place - INT);
      laid++;
      tagPlaces[node] = place - INT;
      int inside = isChunked(tag) ? level + 1 : 0;
      int names = takeNameCount(tag);
      int namesPlace = place;
      int type = takeNames(names);
      boolean cut = unknownNames > 0;
      need(type != NONE && (!cut || inside > 0), namesPlace);
      graph.lay(node, type);
      takeState(node, depth, inside);
      if (cut) {
        passRest(depth, inside);
      } else if (inside > 0) {
        takeEnd(inside);
      }
      return node;
    }

    private static boolean isChunked(int tag) {
      return (tag & CHUNKED) != 0;
    }

    private static int namesIn(int tag) {
      return (tag - TAGS) & ~CHUNKED;
    }

    private int takeTag(int depth, int level) {
      if (depth > MOST_DEPTH) {
        throw new UnsupportedOperationException("values too deep in one another");
      }
      int tag = (int) takeNumber(INT);
      need(namesIn(tag) == ONE_NAME || namesIn(tag) == SEVERAL_NAMES, place - INT);
      need(isChunked(tag) || level == 0, place - INT);
      return tag;
    }

    private int takeNameCount(int tag) {
      if (namesIn(tag) == ONE_NAME) {
        return 1;
      }
      int count = (int) takeNumber(INT);
      need(count >= 1 && count <= MOST_NAMES, place - INT);
      return count;
    }

    /** The type of the first name that is a known one's; unknownNames: how many stood before it. */
    private int takeNames(int count) {
      int type = NONE;
      int unknown = 0;
      for (int i = 0; i < count; i++) {
        int letters = takeName();
        if (type == NONE) {
          type = types.knownNamed(letters);
          unknown += type == NONE ? 1 : 0;
        }
      }
      unknownNames = unknown;
      return type;
    }

    private int takeName() {
      int length = (int) takeNumber(INT);
      if (length == BACK) {
        int back = (int) takeNumber(INT);
        return nameAt(place - INT + back);
      }
      int lengthPlace = place - INT;
      need(length >= 2 && length <= MOST_LETTERS + 1, lengthPlace);
      need(stream.holds(place, length), lengthPlace);
      int letters = 0;
      for (int i = 0; i < length - 1; i++) {
        int letter = stream.byteAt(place + i) - BEFORE_A;
        need(letter >= 1 && letter <= LAST_LETTER, lengthPlace);
        letters = letters << LETTER_BITS | letter;
      }
      need(stream.byteAt(place + length - 1) == 0, lengthPlace);
      place += length;
      namesByPlace[lengthPlace] = letters;
      return letters;
    }

    private int nameAt(int lengthPlace) {
      boolean inside = lengthPlace >= 0 && lengthPlace < MOST_BYTES;
      need(inside && namesByPlace[lengthPlace] != 0, place - INT);
      return namesByPlace[lengthPlace];
    }

    private void takeState(int node, int depth, int level) {
      int type = graph.typeOf(node);
      for (int k = 0; k < types.fieldsOf(type); k++) {
        int kind = types.kindOf(type, k);
        if (kind == REFERENCE) {
          graph.put(node, k, takeValue(depth + 1, level));
        } else {
          graph.put(node, k, takeOfState(WIDTHS[kind], level));
        }
      }
    }

    private void takeEnd(int level) {
      need(chunkEnd == NOWHERE, place);
      int end = (int) takeNumber(INT);
      need(end == -level, place - INT);
    }

    private void passRest(int depth, int level) {
      if (chunkEnd != NOWHERE) {
        place = chunkEnd;
        chunkEnd = NOWHERE;
      }
      for (int i = 0; i < MOST_BYTES; i++) {
        int next = nextInt();
        if (next >= TAGS) {
          passValue(depth + 1, level);
        } else if (next == -level) {
          takeNumber(INT);
          return;
        } else {
          int size = takeSize();
          place += size;
        }
      }
    }

    private void passValue(int depth, int level) {
      int tag = takeTag(depth, level);
      takeNames(takeNameCount(tag));
      passRest(depth, level + 1);
    }

    private long takeOfState(int width, int level) {
      if (level == 0) {
        return takeNumber(width);
      }
      if (chunkEnd == NOWHERE) {
        int size = takeSize();
        chunkEnd = place + size;
      }
      int start = aligned(place, width);
      need(start <= chunkEnd - width, start);
      long number = takeNumber(width);
      if (place == chunkEnd) {
        chunkEnd = NOWHERE;
      }
      return number;
    }

    private int takeSize() {
      int size = (int) takeNumber(INT);
      need(size >= 1 && stream.holds(place, size), place - INT);
      return size;
    }

    private int nextInt() {
      int before = place;
      int next = (int) takeNumber(INT);
      place = before;
      return next;
    }

    private long takeNumber(int width) {
      int start = aligned(place, width);
      need(stream.holds(start, width), start);
      place = start + width;
      return stream.number(start, width);
    }
  }
}
