import java.util.Map;
import java.util.Random;
import java.util.TreeMap;
import java.util.function.LongSupplier;

/** Runs of calls drawn by fixed seeds, with the answers of ValueStream beside those of Model. */
public final class RandomRunsTest {
  private static final int RUNS = 12000;
  /** What later calls answer is free. */
  private static final int MOST_CALLS = 512;
  /** How many bytes of a stream, or fields of nodes, are looked at before many more calls come. */
  private static final int LOOKS = 30;

  private final Check check;
  private final int run;
  private final Random random;
  private final ValueStream x = new ValueStream();
  private final Model m = new Model();
  private final Map<String, Integer> seen;
  private int calls;

  /** The object has had all the calls that it is promised for. */
  private static final class Enough extends RuntimeException {
    private static final long serialVersionUID = 1;
  }

  private RandomRunsTest(Check check, int run, Map<String, Integer> seen) {
    this.check = check;
    this.run = run;
    this.random = new Random(run);
    this.seen = seen;
  }

  public static void main(String[] args) {
    Check check = new Check("RandomRunsTest");
    Map<String, Integer> seen = new TreeMap<>();
    for (int run = 0; run < RUNS; run++) {
      RandomRunsTest one = new RandomRunsTest(check, run, seen);
      try {
        one.calls();
      } catch (Enough enough) {
        check.same("calls", one.calls, MOST_CALLS);
      }
    }
    // Runs that never come to such an answer would show nothing about it.
    for (String kind : new String[] {"read: node", "read: none", "read: malformed",
        "read: java.lang.UnsupportedOperationException", "write: bytes",
        "write: java.lang.UnsupportedOperationException"}) {
      check.holds(kind + " was seen often", seen.getOrDefault(kind, 0) > 100);
    }
    if (args.length > 0) {
      System.out.println(seen);
    }
    check.end();
  }

  private void countCall() {
    if (calls == MOST_CALLS) {
      throw new Enough();
    }
    calls++;
  }

  private static String answer(LongSupplier call) {
    try {
      return Long.toString(call.getAsLong());
    } catch (RuntimeException e) {
      return e.getClass().getName();
    }
  }

  private String same(String call, LongSupplier got, LongSupplier due) {
    countCall();
    String gotText = answer(got);
    String dueText = answer(due);
    if (!gotText.equals(dueText)) {
      System.out.println("run " + run + ": " + call + ": " + gotText + ", due is " + dueText);
    }
    check.holds("run " + run + ": " + call, gotText.equals(dueText));
    return dueText;
  }

  private void same(String call, Runnable got, Runnable due) {
    same(call, () -> zero(got), () -> zero(due));
  }

  private static long zero(Runnable call) {
    call.run();
    return 0;
  }

  private void calls() {
    makeTypes();
    for (int i = 0; i < MOST_CALLS; i++) {
      int what = random.nextInt(20);
      if (random.nextInt(50) == 0) {
        graph();
      } else if (what < 3) {
        node();
      } else if (what < 8) {
        set();
      } else if (what < 11) {
        write();
      } else if (what < 13) {
        craft(0);
      } else if (what < 15) {
        craft(random.nextBoolean() ? 20 : 60);
      } else if (what < 18) {
        spoil();
      } else {
        other();
      }
    }
  }

  private void makeTypes() {
    int types = 1 + random.nextInt(9);
    boolean manyReferences = random.nextBoolean();
    for (int i = 0; i < types; i++) {
      int letters = 1 + random.nextInt(6);
      int name = 0;
      for (int j = 0; j < letters; j++) {
        name = name << 5 | random.nextInt(random.nextInt(20) == 0 ? 32 : 4) + 1;
      }
      int drawn = name;
      int base = random.nextInt(i + 2) - 1;
      same("type(" + drawn + ", " + base + ")", () -> x.type(drawn, base),
          () -> m.type(drawn, base));
      int fields = random.nextInt(6);
      for (int j = 0; j < fields; j++) {
        int type = random.nextInt(4) == 0 ? random.nextInt(types + 1) - 1 : i;
        int kind = manyReferences && random.nextBoolean() ? 4 : random.nextInt(7) - 1;
        same("field(" + type + ", " + kind + ")", () -> x.field(type, kind),
            () -> m.field(type, kind));
      }
    }
  }

  private void node() {
    int type = random.nextInt(5) > 0 ? random.nextInt(m.types.size() + 1) : random.nextInt(10) - 1;
    same("node(" + type + ")", () -> x.node(type), () -> m.node(type));
    same("nodes()", x::nodes, m::nodes);
  }

  /** Many nodes, most with references to the next one, written from the first ones. */
  private void graph() {
    clear();
    int nodes = random.nextInt(24);
    for (int node = 0; node <= nodes && !m.types.isEmpty(); node++) {
      int type = random.nextInt(m.types.size());
      same("node(" + type + ")", () -> x.node(type), () -> m.node(type));
    }
    for (int i = 0; i < 8 * m.nodes(); i++) {
      int node = i / 8;
      int k = i % 8;
      long v = random.nextInt(3) > 0 ? node + 1 : random.nextInt(nodes + 1);
      same("set(" + node + ", " + k + ", " + v + ")", () -> x.set(node, k, v),
          () -> m.set(node, k, v));
    }
    for (int i = 0; i < 4; i++) {
      write();
    }
  }

  private void set() {
    for (int i = 0; i < 4; i++) {
      int node = random.nextInt(m.nodes() + 1) - (random.nextInt(10) == 0 ? 1 : 0);
      int k = random.nextInt(8) - (random.nextInt(10) == 0 ? 3 : 0);
      long[] values = {random.nextLong(), random.nextInt(m.nodes() + 2) - 1, node + 1, node + 1};
      long v = values[random.nextInt(values.length)];
      same("set(" + node + ", " + k + ", " + v + ")", () -> x.set(node, k, v),
          () -> m.set(node, k, v));
      same("get(" + node + ", " + k + ")", () -> x.get(node, k), () -> m.get(node, k));
    }
  }

  private void write() {
    int node = random.nextInt(random.nextBoolean() ? 4 : m.nodes() + 1);
    int order = random.nextInt(20) == 0 ? 2 : random.nextInt(2);
    boolean chunked = random.nextBoolean();
    boolean several = random.nextBoolean();
    String due = same("write(" + node + ", " + order + ", " + chunked + ", " + several + ")",
        () -> x.write(node, order, chunked, several), () -> m.write(node, order, chunked, several));
    count("write: ", Character.isDigit(due.charAt(0)) ? "bytes" : due);
    sameStreams();
    if (random.nextBoolean()) {
      read();
    }
    if (m.nodes() == 24 && random.nextInt(6) == 0) {
      clear();
    }
  }

  private void craft(int faults) {
    if (m.types.isEmpty()) {
      return;
    }
    if (random.nextInt(4) > 0) {
      clear();
    }
    new Crafter(random, m, faults).craft();
    countCall();
    x.wipe();
    for (int from = 0; from < m.size(); from += 8) {
      int n = Math.min(m.size() - from, 8);
      long bytes = 0;
      for (int i = n - 1; i >= 0; i--) {
        bytes = bytes << 8 | m.at(from + i);
      }
      countCall();
      x.feed(bytes, n);
    }
    read();
  }

  private void spoil() {
    if (m.size() == 0) {
      return;
    }
    int i = random.nextInt(m.size());
    int was = m.at(i);
    int[] values = {was + 1, was - 1, 0, 255, 256, was ^ 8, was ^ 4, random.nextInt(256), 0x7F};
    int v = values[random.nextInt(values.length)];
    same("spoil(" + i + ", " + v + ")", () -> x.spoil(i, v), () -> m.spoil(i, v));
    read();
    if (random.nextInt(4) > 0) {
      same("spoil(" + i + ", " + was + ")", () -> x.spoil(i, was), () -> m.spoil(i, was));
    }
  }

  private void other() {
    int type = random.nextInt(9);
    boolean is = random.nextInt(3) > 0;
    same("known(" + type + ", " + is + ")", () -> x.known(type, is), () -> m.known(type, is));
    int n = random.nextInt(11) - 1;
    long v = random.nextLong();
    same("feed(" + v + ", " + n + ")", () -> x.feed(v, n) ? 1 : 0, () -> m.feed(v, n) ? 1 : 0);
    read();
    sameStreams();
    if (random.nextInt(3) == 0) {
      clear();
    }
  }

  private void clear() {
    countCall();
    x.clear();
    m.clear();
  }

  private void read() {
    String due = same("read()", x::read, m::read);
    boolean isNumber = !due.startsWith("java");
    long number = isNumber ? Long.parseLong(due) : 0;
    count("read: ", !isNumber ? due : number >= 0 ? "node" : number == -1 ? "none" : "malformed");
    same("nodes()", x::nodes, m::nodes);
    if (isNumber && number >= 0) {
      sameNodes();
    }
  }

  /** The new nodes come last, and are looked at first. */
  private void sameNodes() {
    int looks = 0;
    for (int node = m.nodes() - 1; node >= 0 && looks < LOOKS; node--) {
      for (int k = -2; k < m.get(node, -2) && looks < LOOKS; k++) {
        int at = node;
        int field = k;
        same("get(" + at + ", " + field + ")", () -> x.get(at, field), () -> m.get(at, field));
        looks++;
      }
    }
  }

  private void sameStreams() {
    same("size()", x::size, m::size);
    int step = m.size() / LOOKS + 1;
    for (int i = random.nextInt(step) - 1; i <= m.size(); i += step) {
      int at = i;
      same("at(" + at + ")", () -> x.at(at), () -> m.at(at));
    }
  }

  private void count(String call, String answer) {
    seen.merge(call + answer, 1, Integer::sum);
  }
}
