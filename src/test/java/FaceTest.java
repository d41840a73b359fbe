import java.lang.reflect.Constructor;
import java.lang.reflect.Field;
import java.lang.reflect.Method;
import java.lang.reflect.Modifier;
import java.util.Arrays;
import java.util.Set;
import java.util.TreeSet;

/** The public face, and what LANGUAGE.md says of the members (rules 1, 5 and 11). */
public final class FaceTest {
  private static final String FACE =
      "at(int)int[] clear()void[] feed(long,int)boolean[]"
          + " field(int,int)int[IllegalArgumentException,IllegalStateException]"
          + " get(int,int)long[NoSuchElementException]"
          + " known(int,boolean)void[IllegalArgumentException]"
          + " node(int)int[IllegalArgumentException,IllegalStateException] nodes()int[]"
          + " read()int[UnsupportedOperationException]"
          + " set(int,int,long)void[NoSuchElementException,IllegalArgumentException] size()int[]"
          + " spoil(int,int)void[NoSuchElementException,IllegalArgumentException]"
          + " type(int,int)int[IllegalArgumentException,IllegalStateException] wipe()void[]"
          + " write(int,int,boolean,boolean)int[NoSuchElementException,"
          + "IllegalArgumentException,UnsupportedOperationException]";

  public static void main(String[] args) {
    Check check = new Check("FaceTest");
    Class<?> face = ValueStream.class;
    check.holds("public and final", face.getModifiers() == (Modifier.PUBLIC | Modifier.FINAL));
    check.holds("the methods are the document's", FACE.equals(String.join(" ", publicOnes(face))));
    Constructor<?>[] made = face.getDeclaredConstructors();
    check.same("constructors", made.length, 1);
    check.holds("it is public, of nothing",
        Modifier.isPublic(made[0].getModifiers()) && made[0].getParameterCount() == 0);
    Set<String> publicNames = new TreeSet<>();
    for (Method m : face.getMethods()) {
      if (m.getDeclaringClass() == face) {
        publicNames.add(m.getName());
      }
    }
    checkMembers(check, face, publicNames);
    for (Class<?> inner : face.getDeclaredClasses()) {
      check.holds(inner + " is static", Modifier.isStatic(inner.getModifiers()));
      check.holds(inner + " is not public", !Modifier.isPublic(inner.getModifiers()));
      checkFields(check, inner);
      for (Method m : inner.getDeclaredMethods()) {
        check.holds(m + " has a name of its own", !publicNames.contains(m.getName()));
        check.holds(m + " has seven parameters at most", m.getParameterCount() <= 7);
      }
    }
    check.holds("twelve classes at most", face.getDeclaredClasses().length < 12);
    check.end();
  }

  private static Set<String> publicOnes(Class<?> face) {
    Set<String> all = new TreeSet<>();
    for (Method m : face.getDeclaredMethods()) {
      if (Modifier.isPublic(m.getModifiers())) {
        all.add(m.getName() + "(" + names(m.getParameterTypes()) + ")"
            + m.getReturnType().getSimpleName() + "[" + names(m.getExceptionTypes()) + "]");
      }
    }
    return all;
  }

  private static String names(Class<?>[] types) {
    return String.join(",", Arrays.stream(types).map(Class::getSimpleName).toList());
  }

  private static void checkMembers(Check check, Class<?> face, Set<String> publicNames) {
    for (Method m : face.getDeclaredMethods()) {
      boolean isPublic = Modifier.isPublic(m.getModifiers());
      check.holds(m + " is public or private", isPublic || Modifier.isPrivate(m.getModifiers()));
      check.holds(m + " has a name of its own", isPublic || !publicNames.contains(m.getName()));
    }
    for (Field f : face.getDeclaredFields()) {
      check.holds(f + " is private", Modifier.isPrivate(f.getModifiers()));
    }
    checkFields(check, face);
  }

  private static void checkFields(Check check, Class<?> type) {
    int fields = 0;
    for (Field f : type.getDeclaredFields()) {
      boolean isStatic = Modifier.isStatic(f.getModifiers());
      check.holds(f + " is final if static", !isStatic || Modifier.isFinal(f.getModifiers()));
      fields += isStatic ? 0 : 1;
    }
    check.holds(type + " has twenty fields at most", fields <= 20);
  }
}
