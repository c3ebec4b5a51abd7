import java.lang.reflect.InvocationTargetException;
import java.lang.reflect.Method;
import java.lang.reflect.Modifier;
import java.util.Arrays;
import java.util.Random;

/** Rule 7 of ../shared/LANGUAGE.md: each call, with arguments at and beyond all bounds, in many states, throws nothing. */
public final class NeverThrowsTest extends Checks {
  private static final int STATES = 6;
  private static final int CALLS = 200;
  private static final int[] EDGES = {LOW, LOW + 1, -101, -100, -2, -1, 0, 1, 2, 3, 4, 5, 6, 7, 8, 9, 10, 11, 20, 30, 31, 32, 33, 40, 41,
    60, 61, 63, 64, 99, 100, 119, 120, 255, 256, 271, 300, 301, 9999, 10000, 1 << 30, BIG - 1, BIG};

  private static final Random random = new Random(48);
  private static PerfectFerried x;
  private static int calls = CALLS;
  private static int state = 0;
  private static int tried = 0;

  public static void main(String[] args) throws Exception {
    for (state = 0; state < STATES; state++) {
      for (Method method : methods()) {
        calls = CALLS;
        sweep(method);
      }
      for (int run = 0; run < 40; run++) mixed();
    }
    System.out.println(tried + " calls, and none throws");
  }

  /** Of like names in like order, so that each run is the same. */
  private static Method[] methods() {
    return Arrays.stream(PerfectFerried.class.getDeclaredMethods()).filter(m -> Modifier.isPublic(m.getModifiers()))
      .sorted((a, b) -> a.getName().compareTo(b.getName())).toArray(Method[]::new);
  }

  /** All edges for up to two arguments, drawn ones beyond. */
  private static void sweep(Method method) throws Exception {
    int many = method.getParameterCount();
    int ways = many == 0 ? 3 : many == 1 ? EDGES.length : many == 2 ? EDGES.length * EDGES.length : 3000;
    for (int way = 0; way < ways; way++) {
      Object[] with = new Object[many];
      int rest = way;
      for (int i = 0; i < many; i++) {
        boolean isInt = method.getParameterTypes()[i] == int.class;
        int edge = EDGES[many > 2 ? random.nextInt(EDGES.length) : rest % EDGES.length];
        rest /= EDGES.length;
        with[i] = isInt ? (Object) edge : (Object) random.nextBoolean();
      }
      call(method, with);
    }
  }

  /** All calls by turns on one object. */
  private static void mixed() throws Exception {
    Method[] all = methods();
    calls = CALLS;
    for (int i = 0; i < CALLS; i++) {
      Method method = all[random.nextInt(all.length)];
      Object[] with = new Object[method.getParameterCount()];
      for (int k = 0; k < with.length; k++) {
        boolean isInt = method.getParameterTypes()[k] == int.class;
        with[k] = isInt ? (Object) EDGES[random.nextInt(EDGES.length)] : (Object) random.nextBoolean();
      }
      call(method, with);
    }
  }

  private static void call(Method method, Object[] with) throws Exception {
    if (calls >= CALLS) {
      x = made();
      calls = 0;
    }
    calls++;
    tried++;
    try {
      method.invoke(x, with);
    } catch (InvocationTargetException e) {
      System.out.println("state " + state + ": " + method.getName() + Arrays.toString(with) + " threw " + e.getCause());
      System.exit(1);
    }
  }

  private static PerfectFerried made() {
    PerfectFerried made = new PerfectFerried();
    if (state == 0) return made;
    if (state == 1) {
      fill(made);
      made.by(3);
      made.year(60);
      made.image();
      return made;
    }
    if (state == 2) {
      // PEOPLE and TEXTS without any FORM
      for (int i = 0; i < 6; i++) made.person(99, 0);
      made.story(119);
      read(made, "fades kind+length+known form;learns kind/length+known (length-9);year 60;tell 0 by 0;");
      made.by(0);
      return made;
    }
    if (state == 3) {
      fill(made);
      passTo(made, 9999);
      return made;
    }
    if (state == 4) {
      // the largest TEXT, and a tape that is full
      String open = "if 1=2or 1=1and 1=0+1*";
      fill(made);
      made.back();
      made.form(0, 1);
      made.person(0, 1);
      read(made, "learns " + open.repeat(8) + "1 " + "then2else1end ".repeat(8) + ";");
      made.by(0);
      put(made, "(".repeat(300));
      return made;
    }
    // FORMS and STORIES without PEOPLE
    for (int i = 0; i < 8; i++) made.form(i % 5, 9);
    for (int i = 0; i < 4; i++) made.story(119);
    put(made, "fades " + "-".repeat(294));
    return made;
  }
}
