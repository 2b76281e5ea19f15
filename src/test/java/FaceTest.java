import java.lang.reflect.Array;
import java.lang.reflect.Constructor;
import java.lang.reflect.Field;
import java.lang.reflect.Method;
import java.lang.reflect.Modifier;
import java.util.Arrays;
import java.util.HashSet;
import java.util.IdentityHashMap;
import java.util.Map;
import java.util.NoSuchElementException;
import java.util.Random;
import java.util.Set;
import java.util.TreeSet;

/** The public face, the rules that can be seen of the compiled class, the room, and wild calls. */
final class FaceTest {
  private static final Check check = new Check("FaceTest");
  private static final int CALLS = 512;
  private static final int ROOM_ELEMENTS = 7300000;
  private static final int ROOM_OBJECTS = 600000;

  public static void main(String[] args) throws ReflectiveOperationException {
    face();
    classesInside();
    room();
    wildCalls();
    check.end();
  }

  private static void face() {
    Set<String> want = new TreeSet<>(Set.of("int hole(int) IllegalArgumentException IllegalStateException",
        "int word(long,int) IllegalArgumentException IllegalStateException",
        "int notation(int) IllegalArgumentException IllegalStateException",
        "boolean put(long,int)", "void clear()", "int read() IllegalArgumentException",
        "int fault(int)", "int node(int,int) NoSuchElementException",
        "int print() NoSuchElementException", "int at(int)", "boolean isKey(long,int)", "int about(int)"));
    Set<String> got = new TreeSet<>();
    Set<String> names = new HashSet<>();
    for (Method method : NotationParse.class.getDeclaredMethods()) {
      if (!Modifier.isPrivate(method.getModifiers())) {
        got.add(shape(method));
        names.add(method.getName());
      }
    }
    check.due("the methods", got, want);
    for (Method method : NotationParse.class.getDeclaredMethods()) {
      boolean hidden = Modifier.isPrivate(method.getModifiers());
      check.due("a private method named " + method.getName(), hidden && names.contains(method.getName()), false);
    }
    for (Field field : NotationParse.class.getDeclaredFields()) {
      boolean hidden = Modifier.isPrivate(field.getModifiers());
      check.due("private " + field.getName(), hidden, !field.getName().equals("NONE"));
    }
    check.due("constructors", Arrays.toString(NotationParse.class.getDeclaredConstructors()),
        "[public NotationParse()]");
    check.due("public and final", Modifier.toString(NotationParse.class.getModifiers()), "public final");
  }

  private static String shape(Method method) {
    StringBuilder shape = new StringBuilder();
    shape.append(method.getReturnType()).append(' ').append(method.getName()).append('(');
    for (Class<?> type : method.getParameterTypes()) {
      shape.append(shape.charAt(shape.length() - 1) == '(' ? "" : ",").append(type);
    }
    shape.append(')');
    for (Class<?> type : method.getExceptionTypes()) {
      shape.append(' ').append(type.getSimpleName());
    }
    return shape.toString();
  }

  private static void classesInside() {
    Class<?>[] inside = NotationParse.class.getDeclaredClasses();
    check.due("at most twelve classes", inside.length < 12, true);
    for (Class<?> one : inside) {
      check.due(one + " is static", Modifier.isStatic(one.getModifiers()), true);
      check.due(one + " is not public", Modifier.isPublic(one.getModifiers()), false);
      int fields = 0;
      for (Field field : one.getDeclaredFields()) {
        boolean constant = Modifier.isStatic(field.getModifiers());
        fields += constant ? 0 : 1;
        check.due(field + " is final", !constant || Modifier.isFinal(field.getModifiers()), true);
      }
      check.due(one + " has at most twenty fields", fields <= 20, true);
      for (Method method : one.getDeclaredMethods()) {
        check.due(method + " takes at most seven", method.getParameterCount() <= 7, true);
      }
      for (Constructor<?> constructor : one.getDeclaredConstructors()) {
        check.due(constructor + " takes at most seven", constructor.getParameterCount() <= 7, true);
      }
    }
  }

  /** The dearest call is the constructor; a run may be made of nothing else. */
  private static void room() throws IllegalAccessException {
    NotationParse x = Check.sums();
    int[] before = size(x);
    check.due("elements of all objects fit", (long) before[1] * CALLS < ROOM_ELEMENTS, true);
    check.due("objects of all objects fit", (long) before[0] * CALLS < ROOM_OBJECTS, true);
    Check.read(x, "(a+b)*c");
    Check.printed(x);
    check.due("reading and printing keep no more", Arrays.toString(size(x)), Arrays.toString(before));
  }

  private static int[] size(NotationParse x) throws IllegalAccessException {
    Map<Object, Boolean> seen = new IdentityHashMap<>();
    int elements = walk(x, NotationParse.class, seen);
    return new int[] {seen.size(), elements};
  }

  private static int walk(Object object, Class<?> type, Map<Object, Boolean> seen)
      throws IllegalAccessException {
    if (object == null || seen.put(object, true) != null) {
      return 0;
    }
    if (type.isArray()) {
      return Array.getLength(object);
    }
    int sum = 0;
    for (Field field : type.getDeclaredFields()) {
      if (!Modifier.isStatic(field.getModifiers())) {
        sum++;
        if (!field.getType().isPrimitive()) {
          field.setAccessible(true);
          Object value = field.get(object);
          sum += value == null ? 0 : walk(value, value.getClass(), seen);
        }
      }
    }
    return sum;
  }

  /** No call may throw anything but what the document names for it. */
  private static void wildCalls() {
    Random random = new Random(7);
    for (int run = 0; run < 2000; run++) {
      NotationParse x = new NotationParse();
      for (int call = 0; call < CALLS; call++) {
        wildCall(x, random);
      }
    }
    check.due("wild calls end", true, true);
  }

  private static void wildCall(NotationParse x, Random random) {
    int which = random.nextInt(12);
    String thrown = "";
    try {
      callOne(x, random, which);
    } catch (IllegalArgumentException e) {
      thrown = which == 0 || which == 1 || which == 2 || which == 5 ? "" : e.toString();
    } catch (IllegalStateException e) {
      thrown = which <= 2 ? "" : e.toString();
    } catch (NoSuchElementException e) {
      thrown = which == 7 || which == 8 ? "" : e.toString();
    } catch (RuntimeException e) {
      thrown = e.toString();
    }
    if (!thrown.isEmpty()) {
      check.due("wild call " + which, thrown, "");
    }
  }

  private static void callOne(NotationParse x, Random random, int which) {
    switch (which) {
      case 0 -> x.hole(number(random, 11));
      case 1 -> x.word(bytes(random), number(random, 3));
      case 2 -> x.notation(number(random, 10));
      case 3 -> x.put(bytes(random), number(random, 9));
      case 4 -> {
        if (random.nextInt(20) == 0) {
          x.clear();
        }
      }
      case 5 -> x.read();
      case 6 -> x.fault(number(random, 3));
      case 7 -> x.node(number(random, 31), number(random, 6));
      case 8 -> x.print();
      case 9 -> x.at(number(random, 230));
      case 10 -> x.isKey(bytes(random), number(random, 9));
      default -> x.about(number(random, 6));
    }
  }

  private static int number(Random random, int usual) {
    return random.nextInt(30) == 0 ? random.nextInt() : random.nextInt(usual + 1);
  }

  private static long bytes(Random random) {
    if (random.nextInt(20) == 0) {
      return random.nextLong();
    }
    String likely = "aab+*  ()1;";
    long bytes = 0;
    for (int k = 0; k < 8; k++) {
      bytes = bytes << 8 | likely.charAt(random.nextInt(likely.length()));
    }
    return bytes;
  }
}
