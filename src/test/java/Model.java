import java.nio.ByteBuffer;
import java.nio.ByteOrder;
import java.util.ArrayList;
import java.util.Arrays;
import java.util.HashMap;
import java.util.IdentityHashMap;
import java.util.List;
import java.util.Map;
import java.util.NoSuchElementException;

/**
 * The document once more, in another way: with objects for types and nodes and texts for names,
 * without any thought of the room it takes. RandomRunsTest sets the two side by side.
 */
final class Model {
  static final class Type {
    String name;
    Type base;
    boolean known = true;
    final List<Integer> own = new ArrayList<>();

    List<Integer> kinds() {
      List<Integer> all = new ArrayList<>(base == null ? List.of() : base.kinds());
      all.addAll(own);
      return all;
    }
  }

  private static final class Node {
    final Type type;
    final long[] numbers;
    final Node[] references;

    Node(Type type) {
      this.type = type;
      numbers = new long[type.kinds().size()];
      references = new Node[numbers.length];
    }
  }

  private static final class Malformed extends RuntimeException {
    private static final long serialVersionUID = 1;
    final int place;

    Malformed(int place) {
      this.place = place;
    }
  }

  final List<Type> types = new ArrayList<>();
  private List<Node> nodes = new ArrayList<>();
  private byte[] stream = {};

  int type(int name, int base) {
    StringBuilder text = new StringBuilder();
    for (int shift = 25; shift >= 0; shift -= 5) {
      int letter = name >> shift & 31;
      if (letter > 26 || letter == 0 && text.length() > 0) {
        throw new IllegalArgumentException();
      }
      if (letter > 0) {
        text.append((char) ('a' + letter - 1));
      }
    }
    Type type = new Type();
    type.name = text.toString();
    boolean used = types.stream().anyMatch(t -> t.name.equals(type.name));
    if (type.name.isEmpty() || used || base < -1 || base >= types.size()) {
      throw new IllegalArgumentException();
    }
    if (types.size() == 8) {
      throw new IllegalStateException();
    }
    type.base = base == -1 ? null : types.get(base);
    types.add(type);
    return types.size() - 1;
  }

  private Type typeOf(int number) {
    if (number < 0 || number >= types.size()) {
      throw new IllegalArgumentException();
    }
    return types.get(number);
  }

  int field(int number, int kind) {
    Type type = typeOf(number);
    if (kind < 0 || kind > 4) {
      throw new IllegalArgumentException();
    }
    boolean isBase = types.stream().anyMatch(t -> t.base == type);
    if (type.own.size() == 4 || isBase || !nodes.isEmpty()) {
      throw new IllegalStateException();
    }
    type.own.add(kind);
    return type.own.size();
  }

  void known(int type, boolean is) {
    typeOf(type).known = is;
  }

  int node(int type) {
    Node node = new Node(typeOf(type));
    if (nodes.size() == 24) {
      throw new IllegalStateException();
    }
    nodes.add(node);
    return nodes.size() - 1;
  }

  int nodes() {
    return nodes.size();
  }

  private Node nodeOf(int number) {
    if (number < 0 || number >= nodes.size()) {
      throw new NoSuchElementException();
    }
    return nodes.get(number);
  }

  void set(int number, int k, long v) {
    Node node = nodeOf(number);
    if (k < 0 || k >= node.numbers.length) {
      throw new NoSuchElementException();
    }
    switch (node.type.kinds().get(k)) {
      case 0 -> node.numbers[k] = (byte) v;
      case 1 -> node.numbers[k] = (short) v;
      case 2 -> node.numbers[k] = (int) v;
      case 3 -> node.numbers[k] = v;
      default -> {
        if (v < -1 || v >= nodes.size()) {
          throw new IllegalArgumentException();
        }
        node.references[k] = v == -1 ? null : nodes.get((int) v);
      }
    }
  }

  long get(int number, int k) {
    Node node = nodeOf(number);
    if (k == -1) {
      return types.indexOf(node.type);
    }
    if (k == -2) {
      return node.numbers.length;
    }
    if (k < 0 || k >= node.numbers.length) {
      throw new NoSuchElementException();
    }
    return node.type.kinds().get(k) == 4 ? nodes.indexOf(node.references[k]) : node.numbers[k];
  }

  void clear() {
    nodes = new ArrayList<>();
  }

  int size() {
    return stream.length;
  }

  int at(int i) {
    return i < 0 || i >= stream.length ? -1 : stream[i] & 255;
  }

  boolean feed(long v, int n) {
    if (n < 1 || n > 8 || stream.length + n > 600) {
      return false;
    }
    stream = Arrays.copyOf(stream, stream.length + n);
    for (int i = 0; i < n; i++) {
      stream[stream.length - n + i] = (byte) (v >>> 8 * i);
    }
    return true;
  }

  void spoil(int i, int v) {
    if (at(i) == -1) {
      throw new NoSuchElementException();
    }
    if ((v & 255) != v) {
      throw new IllegalArgumentException();
    }
    stream[i] = (byte) v;
  }

  void wipe() {
    stream = new byte[0];
  }

  int write(int number, int order, boolean chunked, boolean several) {
    Node node = nodeOf(number);
    if (order != 0 && order != 1) {
      throw new IllegalArgumentException();
    }
    Out out = new Out(order, chunked, several);
    out.value(node, 1);
    int size = out.bytes.position();
    if (size > 600 || out.deepest > 12) {
      throw new UnsupportedOperationException();
    }
    stream = Arrays.copyOf(out.bytes.array(), size);
    return size;
  }

  int read() {
    List<Node> read = new ArrayList<>();
    try {
      Node node = new In(read).first();
      nodes.addAll(read);
      return nodes.indexOf(node);
    } catch (Malformed e) {
      return -2 - e.place;
    }
  }

  /** Writes without a limit; the caller looks at what came of it. */
  private static final class Out {
    final ByteBuffer bytes = ByteBuffer.allocate(1 << 20);
    final Map<Node, Integer> tags = new IdentityHashMap<>();
    final Map<String, Integer> names = new HashMap<>();
    final boolean chunked;
    final boolean several;
    int deepest;
    int chunkStart = -1;

    Out(int order, boolean chunked, boolean several) {
      this.chunked = chunked;
      this.several = several;
      bytes.order(order == 0 ? ByteOrder.BIG_ENDIAN : ByteOrder.LITTLE_ENDIAN);
      bytes.put((byte) order);
    }

    void align(int width) {
      while (bytes.position() % width != 0) {
        bytes.put((byte) 0);
      }
    }

    void putInt(int v) {
      align(4);
      bytes.putInt(v);
    }

    void closeChunk() {
      if (chunkStart >= 0) {
        bytes.putInt(chunkStart - 4, bytes.position() - chunkStart);
      }
      chunkStart = -1;
    }

    void openChunk() {
      if (chunked && chunkStart < 0) {
        putInt(0);
        chunkStart = bytes.position();
      }
    }

    void value(Node node, int depth) {
      if (node == null) {
        openChunk();
        putInt(0);
        return;
      }
      if (tags.containsKey(node)) {
        openChunk();
        putInt(-1);
        putInt(tags.get(node) - bytes.position());
        return;
      }
      deepest = Math.max(deepest, depth);
      closeChunk();
      putInt(0x7FFFFF00 + (several ? 6 : 2) + (chunked ? 8 : 0));
      tags.put(node, bytes.position() - 4);
      names(node.type);
      state(node, depth);
      closeChunk();
      if (chunked) {
        putInt(-depth);
      }
    }

    void names(Type type) {
      List<String> all = new ArrayList<>();
      for (Type t = type; t != null; t = several ? t.base : null) {
        all.add(t.name);
      }
      if (several) {
        putInt(all.size());
      }
      for (String name : all) {
        if (names.containsKey(name)) {
          putInt(-1);
          putInt(names.get(name) - bytes.position());
        } else {
          putInt(name.length() + 1);
          names.put(name, bytes.position() - 4);
          for (char c : (name + "\0").toCharArray()) {
            bytes.put((byte) c);
          }
        }
      }
    }

    void state(Node node, int depth) {
      List<Integer> kinds = node.type.kinds();
      for (int k = 0; k < kinds.size(); k++) {
        if (kinds.get(k) == 4) {
          value(node.references[k], depth + 1);
          continue;
        }
        openChunk();
        align(1 << kinds.get(k));
        switch (kinds.get(k)) {
          case 0 -> bytes.put((byte) node.numbers[k]);
          case 1 -> bytes.putShort((short) node.numbers[k]);
          case 2 -> bytes.putInt((int) node.numbers[k]);
          default -> bytes.putLong(node.numbers[k]);
        }
      }
    }
  }

  private final class In {
    final ByteBuffer bytes = ByteBuffer.wrap(stream);
    final List<Node> read;
    final Map<Integer, Node> tags = new HashMap<>();
    final Map<Integer, String> names = new HashMap<>();
    int pos = 1;
    /** How many bytes of a chunk are left; none is open at 0. */
    int left;

    In(List<Node> read) {
      this.read = read;
    }

    Node first() {
      if (stream.length == 0 || stream[0] != 0 && stream[0] != 1) {
        throw new Malformed(0);
      }
      bytes.order(stream[0] == 0 ? ByteOrder.BIG_ENDIAN : ByteOrder.LITTLE_ENDIAN);
      return plainValue(1);
    }

    int up(int width) {
      return (pos + width - 1) / width * width;
    }

    int peek() {
      if (up(4) + 4 > stream.length) {
        throw new Malformed(up(4));
      }
      return bytes.getInt(up(4));
    }

    int takeInt() {
      int v = peek();
      pos = up(4) + 4;
      return v;
    }

    long take(int width) {
      int start = up(width);
      if (start + width > stream.length) {
        throw new Malformed(start);
      }
      pos = start + width;
      return switch (width) {
        case 1 -> bytes.get(start);
        case 2 -> bytes.getShort(start);
        case 4 -> bytes.getInt(start);
        default -> bytes.getLong(start);
      };
    }

    int takeSize() {
      int size = takeInt();
      if (size < 1 || (long) pos + size > stream.length) {
        throw new Malformed(pos - 4);
      }
      return size;
    }

    long takeInChunk(int width) {
      if (left == 0) {
        left = takeSize();
      }
      int end = pos + left;
      int start = up(width);
      if (start + width > end) {
        throw new Malformed(start);
      }
      long v = take(width);
      left = end - pos;
      return v;
    }

    Node tagged(int d) {
      Node node = tags.get(pos - 4 + d);
      if (node == null) {
        throw new Malformed(pos - 4);
      }
      return node;
    }

    Node plainValue(int depth) {
      int v = takeInt();
      if (v == 0) {
        return null;
      }
      if (v == -1) {
        return tagged(takeInt());
      }
      if (v < 0x7FFFFF00) {
        throw new Malformed(pos - 4);
      }
      return nodeValue(v, depth, 0);
    }

    Node chunkedValue(int depth, int level) {
      if (left == 0 && peek() >= 0x7FFFFF00) {
        return nodeValue(takeInt(), depth, level);
      }
      long v = takeInChunk(4);
      if (v == 0) {
        return null;
      }
      if (v != -1) {
        throw new Malformed(pos - 4);
      }
      return tagged((int) takeInChunk(4));
    }

    void checkTag(int tag, int depth, int level) {
      if (depth > 12) {
        throw new UnsupportedOperationException();
      }
      List<Integer> due = level > 0 ? List.of(10, 14) : List.of(2, 6, 10, 14);
      if (!due.contains(tag - 0x7FFFFF00)) {
        throw new Malformed(pos - 4);
      }
    }

    List<String> takeNames(int tag) {
      int n = 1;
      if ((tag & 4) != 0) {
        n = takeInt();
        if (n < 1 || n > 8) {
          throw new Malformed(pos - 4);
        }
      }
      List<String> all = new ArrayList<>();
      for (int i = 0; i < n; i++) {
        all.add(takeName());
      }
      return all;
    }

    String takeName() {
      int length = takeInt();
      int place = pos - 4;
      if (length == -1) {
        String name = names.get(takeInt() + pos - 4);
        if (name == null) {
          throw new Malformed(pos - 4);
        }
        return name;
      }
      if (length < 2 || length > 7 || pos + length > stream.length) {
        throw new Malformed(place);
      }
      String name = new String(stream, pos, length, java.nio.charset.StandardCharsets.ISO_8859_1);
      if (!name.matches("[a-z]+\0")) {
        throw new Malformed(place);
      }
      pos += length;
      names.put(place, name.substring(0, length - 1));
      return names.get(place);
    }

    Node nodeValue(int tag, int depth, int outer) {
      int tagPlace = pos - 4;
      checkTag(tag, depth, outer);
      if (nodes.size() + read.size() >= 24) {
        throw new Malformed(tagPlace);
      }
      read.add(null);
      int number = read.size() - 1;
      int firstName = (tag & 4) != 0 ? pos + 4 : pos;
      List<String> all = takeNames(tag);
      boolean chunked = (tag & 8) != 0;
      Type type = null;
      int which = 0;
      for (int i = all.size() - 1; i >= 0; i--) {
        for (Type t : types) {
          if (t.known && t.name.equals(all.get(i))) {
            type = t;
            which = i;
          }
        }
      }
      if (type == null || which > 0 && !chunked) {
        throw new Malformed(firstName);
      }
      Node node = new Node(type);
      read.set(number, node);
      tags.put(tagPlace, node);
      int level = chunked ? outer + 1 : 0;
      state(node, depth, level);
      if (which > 0) {
        pos += left;
        left = 0;
        rest(depth, level);
      } else if (chunked) {
        if (left > 0) {
          throw new Malformed(pos);
        }
        if (takeInt() != -level) {
          throw new Malformed(pos - 4);
        }
      }
      return node;
    }

    void state(Node node, int depth, int level) {
      List<Integer> kinds = node.type.kinds();
      for (int k = 0; k < kinds.size(); k++) {
        int kind = kinds.get(k);
        if (kind == 4) {
          node.references[k] =
              level > 0 ? chunkedValue(depth + 1, level) : plainValue(depth + 1);
        } else {
          node.numbers[k] = level > 0 ? takeInChunk(1 << kind) : take(1 << kind);
        }
      }
    }

    void rest(int depth, int level) {
      while (true) {
        int v = peek();
        if (v == -level) {
          takeInt();
          return;
        }
        if (v >= 0x7FFFFF00) {
          takeInt();
          checkTag(v, depth + 1, level);
          takeNames(v);
          rest(depth + 1, level + 1);
        } else {
          int size = takeSize();
          pos = pos + size;
        }
      }
    }
  }
}
