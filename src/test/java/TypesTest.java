/** Promises 1 to 4: a new object, type, field, known. */
public final class TypesTest {
  private static final Class<IllegalArgumentException> ARGUMENT = IllegalArgumentException.class;
  private static final Class<IllegalStateException> STATE = IllegalStateException.class;

  public static void main(String[] args) {
    Check check = new Check("TypesTest");
    newObject(check);
    types(check);
    typesThatAreNone(check);
    eightTypes(check);
    fields(check);
    fieldsThatAreFixed(check);
    known(check);
    check.end();
  }

  private static void newObject(Check check) {
    ValueStream x = new ValueStream();
    check.same("nodes()", x.nodes(), 0);
    check.same("size()", x.size(), 0);
    check.same("at(0)", x.at(0), -1);
    check.fails("known(0, true)", ARGUMENT, () -> x.known(0, true));
    check.fails("node(0)", ARGUMENT, () -> x.node(0));
    check.fails("field(0, 0)", ARGUMENT, () -> x.field(0, 0));
    check.same("read()", x.read(), -2);
  }

  private static void types(Check check) {
    ValueStream x = new ValueStream();
    check.same("type(a)", x.type(1, -1), 0);
    check.same("type(z, 0)", x.type(26, 0), 1);
    check.same("type(zzzzzz, 0)", x.type(Feed.letters("zzzzzz"), 0), 2);
    check.same("type(aa, 2)", x.type(Feed.letters("aa"), 2), 3);
    check.same("type(abcdef)", x.type(Feed.letters("abcdef"), 3), 4);
    x.node(4);
    x.write(0, 1, false, false);
    check.same("the first letter is the highest", x.at(12), 'a');
    check.same("the last letter is the lowest", x.at(17), 'f');
    check.same("the two highest bits are of no letter", x.type(1 << 31 | 3, -1), 5);
    check.fails("the same name without them", ARGUMENT, () -> x.type(3, -1));
  }

  private static void typesThatAreNone(Check check) {
    ValueStream x = new ValueStream();
    x.type(1, -1);
    int[] noNames = {0, 27, 31, 32, 33 << 5, 1 << 10 | 1, 27 << 5 | 1, -1, Integer.MIN_VALUE,
        Integer.MAX_VALUE, 1 << 25, 1 << 30, 1 << 25 | 1, Feed.letters("aaaaa") | 27 << 25};
    for (int name : noNames) {
      check.fails("type(" + name + ", -1)", ARGUMENT, () -> x.type(name, -1));
    }
    for (int base : new int[] {-2, 1, 8, Integer.MIN_VALUE, Integer.MAX_VALUE}) {
      check.fails("type(b, " + base + ")", ARGUMENT, () -> x.type(2, base));
    }
    check.fails("a name that is used", ARGUMENT, () -> x.type(1, -1));
    check.same("none of these made a type", x.type(2, 0), 1);
  }

  private static void eightTypes(Check check) {
    ValueStream x = new ValueStream();
    for (int i = 0; i < 8; i++) {
      check.same("type " + i, x.type(i + 1, i - 1), i);
    }
    check.fails("a ninth", STATE, () -> x.type(9, -1));
    check.fails("a ninth that is none", ARGUMENT, () -> x.type(0, -1));
    check.fails("a ninth of a name that is used", ARGUMENT, () -> x.type(8, -1));
    check.fails("a ninth with no base", ARGUMENT, () -> x.type(9, 8));
  }

  private static void fields(Check check) {
    ValueStream x = new ValueStream();
    x.type(1, -1);
    x.type(2, -1);
    for (int i = 1; i <= 4; i++) {
      check.same("field " + i, x.field(0, i), i);
    }
    check.fails("a fifth", STATE, () -> x.field(0, 0));
    check.same("of another type", x.field(1, 0), 1);
    x.type(3, 0);
    check.same("own fields only", x.field(2, 0), 1);
    x.node(2);
    check.same("those of the base too", x.get(0, -2), 5);
    check.fails("no type -1", ARGUMENT, () -> x.field(-1, 0));
    check.fails("no type 3", ARGUMENT, () -> x.field(3, 0));
    check.fails("no kind -1", ARGUMENT, () -> x.field(1, -1));
    check.fails("no kind 5, though there are nodes", ARGUMENT, () -> x.field(1, 5));
  }

  private static void fieldsThatAreFixed(Check check) {
    ValueStream x = new ValueStream();
    x.type(1, -1);
    x.field(0, 0);
    x.type(2, 0);
    check.fails("field of a base", STATE, () -> x.field(0, 0));
    check.same("field of the other", x.field(1, 4), 1);
    x.node(0);
    check.fails("field when there are nodes", STATE, () -> x.field(1, 0));
    x.clear();
    check.same("field when they are gone", x.field(1, 3), 2);
    x.node(1);
    check.same("first the base's", x.get(0, 0), 0);
    check.same("then its own", x.get(0, 1), -1);
    check.same("in their order", x.get(0, 2), 0);
  }

  private static void known(Check check) {
    ValueStream x = new ValueStream();
    x.type(1, -1);
    x.node(0);
    x.write(0, 0, false, false);
    check.same("a new type is known", x.read(), 1);
    x.known(0, false);
    check.same("not any more", x.read(), -2 - 8);
    check.same("it still can have nodes", x.node(0), 2);
    check.same("and be written", x.write(2, 0, false, false), 14);
    x.known(0, true);
    check.same("known again", x.read(), 3);
    check.fails("known(-1)", ARGUMENT, () -> x.known(-1, true));
    check.fails("known(1)", ARGUMENT, () -> x.known(1, false));
  }
}
