import java.util.NoSuchElementException;

/** Promises 5 to 9: node, nodes, set, get, clear. */
public final class NodesTest {
  private static final Class<IllegalArgumentException> ARGUMENT = IllegalArgumentException.class;
  private static final Class<NoSuchElementException> MISSING = NoSuchElementException.class;

  public static void main(String[] args) {
    Check check = new Check("NodesTest");
    nodes(check);
    numbers(check);
    references(check);
    fieldsThatAreNone(check);
    cleared(check);
    longestChain(check);
    check.end();
  }

  private static ValueStream allKinds() {
    ValueStream x = new ValueStream();
    x.type(1, -1);
    for (int kind = 0; kind < 4; kind++) {
      x.field(0, kind);
    }
    x.type(2, 0);
    x.field(1, 4);
    return x;
  }

  private static void nodes(Check check) {
    ValueStream x = allKinds();
    for (int i = 0; i < 24; i++) {
      check.same("nodes()", x.nodes(), i);
      check.same("node", x.node(i % 2), i);
    }
    check.fails("a 25th", IllegalStateException.class, () -> x.node(0));
    check.fails("a 25th of no type", ARGUMENT, () -> x.node(2));
    check.fails("no type -1", ARGUMENT, () -> x.node(-1));
    check.same("nodes() of 24", x.nodes(), 24);
    check.same("type of 22", x.get(22, -1), 0);
    check.same("type of 23", x.get(23, -1), 1);
    check.same("fields of 22", x.get(22, -2), 4);
    check.same("fields of 23", x.get(23, -2), 5);
    check.same("numbers are 0 at first", x.get(23, 3), 0);
    check.same("references are none at first", x.get(23, 4), -1);
  }

  private static void numbers(Check check) {
    ValueStream x = allKinds();
    x.node(1);
    long v = 0x89ABCDEF87658384L;
    for (int k = 0; k < 4; k++) {
      x.set(0, k, v);
    }
    check.same("a byte", x.get(0, 0), (byte) v);
    check.same("two bytes", x.get(0, 1), (short) v);
    check.same("four bytes", x.get(0, 2), (int) v);
    check.same("eight bytes", x.get(0, 3), v);
    x.set(0, 0, 127);
    x.set(0, 1, 32767);
    x.set(0, 2, Integer.MAX_VALUE + 1L);
    check.same("127", x.get(0, 0), 127);
    check.same("32767", x.get(0, 1), 32767);
    check.same("one more than an int", x.get(0, 2), Integer.MIN_VALUE);
    x.set(0, 0, 128);
    check.same("128", x.get(0, 0), -128);
  }

  private static void references(Check check) {
    ValueStream x = allKinds();
    x.node(1);
    x.node(0);
    x.set(0, 4, 1);
    check.same("to another", x.get(0, 4), 1);
    x.set(0, 4, 0);
    check.same("to itself", x.get(0, 4), 0);
    for (long none : new long[] {2, -2, 1L << 32, (1L << 32) - 1, Long.MIN_VALUE}) {
      check.fails("to " + none, ARGUMENT, () -> x.set(0, 4, none));
    }
    check.same("stays", x.get(0, 4), 0);
    x.set(0, 4, -1);
    check.same("to none", x.get(0, 4), -1);
  }

  private static void fieldsThatAreNone(Check check) {
    ValueStream x = allKinds();
    x.node(0);
    for (int node : new int[] {-1, 1, 24, Integer.MIN_VALUE, Integer.MAX_VALUE}) {
      check.fails("get(" + node + ", 0)", MISSING, () -> x.get(node, 0));
      check.fails("get(" + node + ", -1)", MISSING, () -> x.get(node, -1));
      check.fails("get(" + node + ", -2)", MISSING, () -> x.get(node, -2));
      check.fails("set(" + node + ", 0, 0)", MISSING, () -> x.set(node, 0, 0));
    }
    for (int k : new int[] {-3, 4, 32, Integer.MIN_VALUE, Integer.MAX_VALUE}) {
      check.fails("get(0, " + k + ")", MISSING, () -> x.get(0, k));
      check.fails("set(0, " + k + ", 0)", MISSING, () -> x.set(0, k, 0));
    }
    check.fails("set(0, -1, 0)", MISSING, () -> x.set(0, -1, 0));
    check.fails("set(0, -2, 0)", MISSING, () -> x.set(0, -2, 0));
  }

  private static void cleared(Check check) {
    ValueStream x = allKinds();
    x.node(1);
    x.node(1);
    x.set(0, 2, 5);
    x.set(0, 4, 1);
    int size = x.write(0, 0, false, false);
    x.clear();
    check.same("nodes()", x.nodes(), 0);
    check.same("the stream stays", x.size(), size);
    check.fails("get(0, -1)", MISSING, () -> x.get(0, -1));
    check.same("the next one", x.node(1), 0);
    check.same("is new", x.get(0, 2), 0);
    check.same("and refers to none", x.get(0, 4), -1);
    check.fails("to what was", ARGUMENT, () -> x.set(0, 4, 1));
  }

  private static void longestChain(Check check) {
    ValueStream x = new ValueStream();
    for (int type = 0; type < 8; type++) {
      x.type(type + 1, type - 1);
      for (int k = 0; k < 4; k++) {
        x.field(type, k);
      }
    }
    for (int node = 0; node < 24; node++) {
      x.node(7);
    }
    check.same("fields", x.get(23, -2), 32);
    for (int i = 0; i < 192; i++) {
      x.set(i % 24, i % 32, i % 24 + i % 32);
    }
    for (int i = 0; i < 192; i++) {
      check.same("field " + i % 32, x.get(i % 24, i % 32), i % 24 + i % 32);
    }
  }
}
