import java.util.ArrayList;
import java.util.List;
import java.util.Random;

/**
 * Makes streams that a reader of a model's types can read, most of them: with chunks cut anywhere,
 * unknown names, values to be passed over, and, where it is told to, an int that is wrong.
 */
final class Crafter {
  private static final String[] UNKNOWN = {"q", "zz", "unknwn"};

  private final Random random;
  private final List<Model.Type> types;
  private final Model to;
  private final int order;
  private final int faults;
  private final List<Integer> tags = new ArrayList<>();
  private final List<Integer> namePlaces = new ArrayList<>();
  private final List<String> nameTexts = new ArrayList<>();
  private int sizePlace = -1;

  Crafter(Random random, Model to, int faults) {
    this.random = random;
    this.types = to.types;
    this.to = to;
    this.faults = faults;
    this.order = random.nextInt(2);
  }

  void craft() {
    to.wipe();
    to.feed(order, 1);
    if (random.nextInt(20) == 0) {
      number(0, 4);
    } else {
      value(1, 0);
    }
    number(random.nextInt(), 1 << random.nextInt(3));
  }

  private void number(long v, int width) {
    while (to.size() % width != 0) {
      to.feed(random.nextInt(10) == 0 ? random.nextInt() : 0, 1);
    }
    long wrong = faults > 0 && random.nextInt(faults) == 0 ? wrong(v) : v;
    to.feed(order == 1 ? wrong : Long.reverseBytes(wrong) >>> 64 - 8 * width, width);
  }

  private long wrong(long v) {
    long[] all = {v + 1, v - 1, v + 4, v - 4, 0, -1, -2, 1, 4, 0x7FFFFF00, 0x7FFFFF02, 0x7FFFFF0A,
        0x7FFFFF0E, 0x7FFFFF06, 0x7FFFFEFF, v ^ 8, v ^ 4, random.nextInt()};
    return all[random.nextInt(all.length)];
  }

  private void patch(int place, int v) {
    for (int i = 0; i < 4 && place + i < to.size(); i++) {
      to.spoil(place + i, v >> 8 * (order == 1 ? i : 3 - i) & 255);
    }
  }

  private void endChunk() {
    if (sizePlace >= 0) {
      int extra = faults > 0 && random.nextInt(faults) == 0 ? random.nextInt(5) - 2 : 0;
      patch(sizePlace, to.size() - sizePlace - 4 + extra);
    }
    sizePlace = -1;
  }

  private void inState(long v, int width, int level) {
    if (level > 0 && sizePlace < 0) {
      number(0, 4);
      sizePlace = to.size() - 4;
    }
    number(v, width);
    if (random.nextInt(4) == 0) {
      endChunk();
    }
  }

  private void value(int depth, int level) {
    boolean deep = depth > 1 && random.nextInt(depth < 12 ? 3 : 30) == 0;
    if (depth > 1 && (deep || to.size() > 500)) {
      if (tags.isEmpty() || random.nextBoolean()) {
        inState(0, 4, level);
      } else {
        inState(-1, 4, level);
        int tag = tags.get(random.nextInt(tags.size()));
        int place = to.size();
        if (level > 0 && sizePlace < 0) {
          place = (place + 3) / 4 * 4 + 4;
        }
        inState(tag - place, 4, level);
      }
      return;
    }
    tagged(depth, level, false);
  }

  private void tagged(int depth, int level, boolean passed) {
    endChunk();
    boolean chunked = level > 0 || random.nextInt(3) > 0;
    boolean several = random.nextBoolean();
    number(0x7FFFFF02 + (several ? 4 : 0) + (chunked ? 8 : 0), 4);
    if (!passed) {
      tags.add(to.size() - 4);
    }
    List<String> names = pickNames(chunked, several);
    if (several) {
      number(names.size(), 4);
    }
    names.forEach(this::name);
    int inside = chunked ? level + 1 : 0;
    Model.Type type = null;
    int unknown = 0;
    for (String name : names) {
      type = type == null ? knownType(name) : type;
      unknown += type == null ? 1 : 0;
    }
    if (type != null && !passed) {
      for (int kind : type.kinds()) {
        if (kind == 4) {
          value(depth + 1, inside);
        } else {
          inState(random.nextLong(), 1 << kind, inside);
        }
      }
    }
    if (passed || unknown > 0 && inside > 0) {
      rest(depth, inside);
    }
    if (chunked) {
      endChunk();
      number(-inside, 4);
    }
  }

  private void rest(int depth, int level) {
    for (int i = random.nextInt(4); i > 0; i--) {
      if (random.nextInt(3) == 0 && to.size() < 450) {
        tagged(depth + 1, level, true);
      } else {
        inState(random.nextBoolean() ? -level : 0x7FFFFF0A, 1 << random.nextInt(4), level);
      }
    }
  }

  private List<String> pickNames(boolean chunked, boolean several) {
    List<String> names = new ArrayList<>();
    if (chunked && several) {
      for (int i = random.nextInt(3); i > 0; i--) {
        names.add(UNKNOWN[random.nextInt(UNKNOWN.length)]);
      }
    }
    Model.Type type = types.get(random.nextInt(types.size()));
    for (int i = 0; i < 4 && !type.known; i++) {
      type = types.get(random.nextInt(types.size()));
    }
    for (; type != null && names.size() < 8; type = several ? type.base : null) {
      names.add(type.name);
    }
    return names;
  }

  private Model.Type knownType(String name) {
    return types.stream().filter(t -> t.known && t.name.equals(name)).findFirst().orElse(null);
  }

  private void name(String name) {
    int before = nameTexts.indexOf(name);
    if (before >= 0 && random.nextInt(4) > 0) {
      number(-1, 4);
      number(namePlaces.get(before) - to.size(), 4);
      return;
    }
    number(name.length() + 1, 4);
    namePlaces.add(to.size() - 4);
    nameTexts.add(name);
    for (char c : name.toCharArray()) {
      number(c, 1);
    }
    number(0, 1);
  }
}
