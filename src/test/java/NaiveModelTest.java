import java.lang.reflect.InvocationTargetException;
import java.lang.reflect.Method;
import java.util.ArrayList;
import java.util.Arrays;
import java.util.HashMap;
import java.util.List;
import java.util.Map;
import java.util.Random;

/**
 * Long runs of drawn calls on PerfectFerried and on a slow model that follows the document word by
 * word: whole copies for STEPS and IMAGES, all sets of SAYINGS for LEAST, laws walked as trees.
 */
public final class NaiveModelTest {
  static final int RUNS = 600;
  static final int CALLS = 512;

  public static void main(String[] args) throws Exception {
    Map<String, Method> methods = new HashMap<>();
    for (Method m : PerfectFerried.class.getDeclaredMethods()) {
      methods.put(m.getName(), m);
    }
    Map<String, Integer> good = new HashMap<>();
    for (int run = 0; run < RUNS; run++) {
      Random random = new Random(run * 7919L + 17);
      PerfectFerried real = new PerfectFerried();
      Model model = new Model();
      Caller caller = new Caller(random, model);
      StringBuilder history = new StringBuilder();
      for (int i = 0; i < CALLS; i++) {
        Object[] call = caller.next();
        String name = (String) call[0];
        Object[] arguments = Arrays.copyOfRange(call, 1, call.length);
        long want = model.answer(name, arguments);
        Method method = methods.get(name);
        Object answer;
        try {
          method.setAccessible(true);
          answer = method.invoke(real, arguments);
        } catch (InvocationTargetException e) {
          System.out.println("run " + run + " threw " + e.getCause() + "\n" + history + name + Arrays.toString(arguments));
          System.exit(1);
          return;
        }
        long got = answer instanceof Boolean b ? (b ? 1 : 0) : ((Number) answer).longValue();
        history.append(name).append(Arrays.toString(arguments)).append(" = ").append(want).append('\n');
        if (want > 0) {
          good.merge(name, 1, Integer::sum);
        }
        if (got != want) {
          System.out.println("run " + run + ", call " + i + ": answered " + got + ", due is " + want + "\n" + history);
          System.exit(1);
        }
      }
    }
    for (String name : methods.keySet()) {
      if (java.lang.reflect.Modifier.isPublic(methods.get(name).getModifiers()) && good.getOrDefault(name, 0) < 20) {
        System.out.println(name + " was hardly tried: " + good.get(name));
        System.exit(1);
      }
    }
    if (Model.fullBooks < 1000) {
      System.out.println("the book was hardly ever full");
      System.exit(1);
    }
    if (args.length > 0) {
      System.out.println(Model.fullBooks);
      System.out.println(good);
      System.out.println(Arrays.toString(Model.faults));
    }
    for (int fault = 0; fault <= 6; fault++) {
      if (Model.faults[fault] < 20) {
        System.out.println("fault " + fault + " was hardly met");
        System.exit(1);
      }
    }
    System.out.println("the model agrees in " + RUNS + " runs");
  }

  /** Draws calls, most of them sensible. */
  static final class Caller {
    final Random random;
    final Model model;
    final List<Object[]> waiting = new ArrayList<>();
    final boolean late;
    final boolean lively;

    Caller(Random random, Model model) {
      this.random = random;
      this.model = model;
      this.late = random.nextInt(8) == 0;
      this.lively = !late && random.nextInt(2) == 0;
    }

    int below(int n) { return random.nextInt(n); }

    int near(int n) {
      int odd = below(40);
      if (odd == 0) return -1;
      if (odd == 1) return n;
      if (odd == 2) return -2;
      if (odd == 3) return odd(below(6));
      return n <= 0 ? below(3) - 1 : below(n);
    }

    static int odd(int which) {
      return new int[] {Integer.MAX_VALUE, Integer.MIN_VALUE, 1 << 30, 31, 32, 255}[which];
    }

    boolean coin() { return random.nextBoolean(); }

    Object[] next() {
      if (waiting.isEmpty()) {
        draw();
      }
      return waiting.remove(0);
    }

    void put(Object... call) { waiting.add(call); }

    void draw() {
      State s = model.s;
      int forms = s.forms.size();
      int people = s.people.size();
      int stories = s.stories.size();
      if (lively && drawLively(forms, people, stories)) {
        return;
      }
      if (people < 3 && below(4) == 0) {
        put("person", near(100), below(Math.max(1, 1 << forms)));
        return;
      }
      if (forms < 4 && below(4) == 0) {
        put("form", near(5), 1 + near(9));
        return;
      }
      if (late && s.year < 9990 && below(3) == 0) {
        put("year", 60);
        return;
      }
      switch (below(52)) {
        case 0: put("form", near(5), near(10)); break;
        case 1: put("person", near(100), near(Math.max(1, 1 << forms))); break;
        case 2: put("story", near(120)); break;
        case 3: case 4: case 5: case 6: feedText(); break;
        case 7: put("fault", near(2)); break;
        case 8: put("by", near(Math.max(1, s.texts.size())));  break;
        case 9: case 10: case 11: put("teach", near(forms), near(people), near(people)); break;
        case 12: put("forget", near(people), near(forms)); break;
        case 13: case 14: put("tell", near(people), near(stories)); break;
        case 15: put("year", below(3) == 0 ? near(61) : 1 + below(3)); break;
        case 16: put("played", near(s.texts.size())); break;
        case 17: case 18: put("ages", below(20) == 0 ? near(10000) : below(10000), below(3) == 0 ? near(41) : 1 + below(40)); break;
        case 19: case 20: for (int i = below(5); i >= 0; i--) put("undo"); break;
        case 21: for (int p = 0; p < people; p++) for (int w = 0; w < 4; w++) put("of", p, w); put("of", near(people), near(4)); break;
        case 22: put("ofForm", near(forms), near(3)); break;
        case 23: case 24: put("law", near(people), near(forms), coin()); break;
        case 25: put("is", near(4)); put("is", 1); break;
        case 26: put("book", near(31), near(4)); put("book", near(30), near(4)); break;
        case 27: put("foretold", below(2) == 0 ? near(61) : 1 + below(60), near(people), near(2)); break;
        case 28: put("order", near(120), near(5)); break;
        case 29: put("number", near(5), near(5), near(5), near(5), near(5)); orderly(); break;
        case 30: put("holds", near(120), near(5), near(5), near(5)); int d = below(5); put("holds", below(120), 2 + below(2), d, d); break;
        case 31: case 32: saying(); break;
        case 33: put("could", -1); put("could", near(120)); put("could", near(8)); break;
        case 34: put("likely", near(5), near(5), coin()); break;
        case 35: put("sure", near(5)); break;
        case 36: put("ask"); break;
        case 37: put("least", near(1 << forms), near(stories), coin()); break;
        case 38: put("blurred", near(1 << forms), near(stories)); break;
        case 39: put("cover", near(people)); break;
        case 40: put("keep"); break;
        case 41: put("both", near(people), near(people), near(stories)); break;
        case 42: put("apart", near(120), near(120)); break;
        case 43: put("middle"); break;
        case 44: int n = near(4); int f = near(forms); put("lost", f, n, true); put("lost", f, n, false); break;
        case 45: put("heirs", near(forms)); break;
        case 46: put("seen", below(5) == 0 ? -1 : near(people), below(3) == 0 ? near(11) : below(5)); put("whose"); break;
        case 47: put("richest"); put("rarest"); put("silent"); break;
        case 48: put("ledger", near(people)); break;
        case 49: if (below(2) == 0) put("image"); break;
        case 50: if (below(5) == 0) put("back"); break;
        default: put("about", near(9)); break;
      }
      if (waiting.isEmpty()) {
        put("about", below(9));
      }
    }

    /** The young forget little: much is told, and the BOOK is full. */
    boolean drawLively(int forms, int people, int stories) {
      if (forms < 3) {
        put("form", new int[] {0, 0, 1, 4, 2}[below(5)], 1 + below(3));
      } else if (people < 3) {
        put("person", below(15), below(1 << forms));
      } else if (stories < 2) {
        put("story", below(120));
      } else if (below(3) == 0) {
        put("tell", below(people), below(stories));
      } else if (below(8) == 0) {
        put("book", -1, 0);
        put("book", below(30), below(4));
        put("ledger", below(people + 1) - 1);
      } else if (below(8) == 0) {
        put("year", 1);
      } else if (below(8) == 0) {
        put("teach", below(forms), below(people), below(people));
      } else {
        return false;
      }
      return true;
    }

    void orderly() {
      int[] o = Model.ORDERS.get(below(120));
      put("number", o[0], o[1], o[2], o[3], o[4]);
    }

    void saying() {
      if (below(6) == 0) {
        put("say", -1, near(5), near(5));
        return;
      }
      int kind = near(5);
      int a = near(5);
      put("say", kind, a, (kind == 2 || kind == 3) && below(10) > 0 ? a : near(5));
    }

    void feedText() {
      String text = new Texts(random, model.s).text();
      if (below(3) == 0) {
        text = spoilt(text);
      }
      byte[] bytes = new byte[text.length() + 19];
      for (int i = 0; i < text.length(); i++) {
        bytes[i] = (byte) text.charAt(i);
      }
      if (below(10) > 0) {
        put("end", 0);
      }
      for (int i = 0; i < text.length(); i += 20) {
        int[] words = new int[5];
        for (int k = 0; k < 20; k++) {
          words[k / 4] = words[k / 4] << 8 | bytes[i + k] & 255;
        }
        put("feed", words[0], words[1], words[2], words[3], words[4]);
      }
      put("end", below(20) == 0 ? near(301) : text.length());
      put("text");
      put("fault", 0);
      put("fault", 1);
      put("about", 8);
      if (below(2) == 0) {
        put("by", Math.min(model.s.texts.size(), below(4)));
      }
      if (below(2) == 0) {
        put("played", Math.min(model.s.texts.size(), below(4)));
      }
    }

    String spoilt(String text) {
      StringBuilder b = new StringBuilder(text);
      for (int i = below(2); i >= 0 && b.length() > 0; i--) {
        int at = below(b.length());
        switch (below(6)) {
          case 0: b.deleteCharAt(at); break;
          case 1: b.insert(at, "<>=#+-*/(); 09azAZ!\t\n_\u00e9".charAt(below(23))); break;
          case 2: b.setLength(at); break;
          case 3: b.insert(at, new String[] {" breath ", " not ", " if ", " half ", " 10000 ", " fades ", " known ", "(", "-", " end "}[below(10)]); break;
          case 4: b.insert(at, b.substring(at, Math.min(b.length(), at + below(30)))); break;
          default: b.setCharAt(at, (char) below(256)); break;
        }
      }
      return b.length() > 300 ? b.substring(0, 300) : b.toString();
    }
  }

  /** Draws TEXTS that are nearly always right. */
  static final class Texts {
    final Random random;
    final State s;
    boolean inFades;
    int open;

    Texts(Random random, State s) {
      this.random = random;
      this.s = s;
    }

    int below(int n) { return random.nextInt(n); }

    String gap() { return below(12) == 0 ? "\n " : " "; }

    String text() {
      StringBuilder b = new StringBuilder();
      boolean fades = below(3) > 0;
      boolean learns = below(3) > 0;
      if (below(12) == 0) {
        for (int i = 18 + below(8); i > 0; i--) {
          b.append("year ").append(1 + below(2)).append(';');
        }
      }
      for (int i = below(8); i >= 0; i--) {
        if (fades && below(3) == 0) {
          inFades = true;
          b.append("fades ").append(sum(below(4))).append(';');
          fades = below(40) == 0;
        }
        if (learns && below(3) == 0) {
          inFades = false;
          b.append("learns ").append(sum(below(4))).append(';');
          learns = below(40) == 0;
        }
        b.append(clause()).append(gap());
      }
      return b.length() > 300 ? b.substring(0, 300) : b.toString();
    }

    int number(int n) {
      int odd = below(60);
      return odd == 0 ? n : n <= 0 ? 0 : below(n);
    }

    String clause() {
      int forms = Math.max(1, s.forms.size());
      int people = Math.max(1, s.people.size());
      switch (below(9)) {
        case 0: return "form " + number(5) + gap() + "length " + (1 + number(9)) + ";";
        case 1: return "person " + number(100) + " knows " + (below(3) == 0 ? number(256) : number(1 << s.forms.size())) + ";";
        case 2: return "story " + number(120) + ";";
        case 3: case 4: return "teach " + number(Math.min(8, forms)) + " by " + number(Math.min(6, people)) + " to " + number(Math.min(6, people)) + ";";
        case 5: return "forget " + number(forms) + " by " + number(people) + ";";
        case 6: return "tell " + number(Math.max(1, s.stories.size())) + " by " + number(people) + ";";
        default: return "year " + (below(4) == 0 ? number(61) : 1 + below(3)) + ";";
      }
    }

    String sum(int deep) {
      StringBuilder b = new StringBuilder(product(deep));
      while (below(3) == 0) {
        b.append(below(2) == 0 ? "+" : " - ").append(product(deep));
      }
      return b.toString();
    }

    String product(int deep) {
      StringBuilder b = new StringBuilder(one(deep));
      while (below(4) == 0) {
        b.append(below(2) == 0 ? "*" : " /").append(one(deep));
      }
      return b.toString();
    }

    String one(int deep) {
      if (deep <= 0 || below(3) == 0) {
        if (below(2) == 0) {
          return " " + (below(6) == 0 ? below(10000) : below(60) == 0 ? 10000 + below(3) : below(12));
        }
        String[] names = {"year", "form", "kind", "length", "age", "who", "knows", "breath"};
        return " " + names[below(inFades && below(30) > 0 ? 7 : 8)] + gap();
      }
      int less = deep - 1;
      if (below(20) == 0) {
        return deepOne();
      }
      switch (below(6)) {
        case 0: return "(" + sum(less) + ")";
        case 1: return "-" + one(less);
        case 2: return " half" + gap() + one(less);
        case 3: return " known " + one(less);
        default: return " if " + either(less) + " then " + sum(less) + " else " + sum(less) + " end ";
      }
    }

    /** Some seven to nine that are open around one another. */
    String deepOne() {
      StringBuilder b = new StringBuilder();
      StringBuilder behind = new StringBuilder();
      for (int i = 3 + below(6); i > 0; i--) {
        switch (below(5)) {
          case 0: b.append("("); behind.insert(0, ")"); break;
          case 1: b.append("-"); break;
          case 2: b.append(" half "); break;
          case 3: b.append(" if not 1="); behind.insert(0, " then 1 else 2 end "); break;
          default: b.append(" known "); break;
        }
      }
      return b.append("form").append(behind).toString();
    }

    String either(int deep) {
      String text = both(deep);
      while (below(5) == 0) {
        text += " or " + both(deep);
      }
      return text;
    }

    String both(int deep) {
      String text = ask(deep);
      while (below(5) == 0) {
        text += " and " + ask(deep);
      }
      return text;
    }

    String ask(int deep) {
      if (below(5) == 0) {
        return " not " + ask(deep - 1);
      }
      String[] signs = {"<", "<=", ">", ">=", "=", "#"};
      return sum(deep - 1) + signs[below(6)] + sum(deep - 1);
    }
  }

  static final class Person {
    int age;
    int knows;
    int breath = 20;

    Person(int age, int knows) { this.age = age; this.knows = knows; }

    Person copy() { Person p = new Person(age, knows); p.breath = breath; return p; }
  }

  static final class Clause {
    String word;
    int[] numbers = new int[3];
  }

  static final class Parsed {
    final List<Clause> clauses = new ArrayList<>();
    Node fades;
    Node learns;
  }

  static final class Node {
    final String what;
    final Node[] parts;

    Node(String what, Node... parts) { this.what = what; this.parts = parts; }
  }

  /** What STEPS take back. */
  static final class Ahead {
    int year;
    int x;
    List<Person> people;
    List<int[]> book;
  }

  static final class State {
    List<int[]> forms = new ArrayList<>();
    List<Person> people = new ArrayList<>();
    List<int[]> told = new ArrayList<>();
    List<Integer> stories = new ArrayList<>();
    List<Parsed> texts = new ArrayList<>();
    int rule = -1;
    int year;
    int x = 271;
    List<int[]> book = new ArrayList<>();
    List<Ahead> steps = new ArrayList<>();
    List<int[]> said = new ArrayList<>();
    List<int[]> seen = new ArrayList<>();

    State copy() {
      State c = new State();
      c.forms.addAll(forms);
      for (Person p : people) c.people.add(p.copy());
      c.told.addAll(told);
      c.stories.addAll(stories);
      c.texts.addAll(texts);
      c.rule = rule;
      c.year = year;
      c.x = x;
      c.book.addAll(book);
      c.steps.addAll(steps);
      c.said.addAll(said);
      c.seen.addAll(seen);
      return c;
    }
  }

  static final class Model {
    static final List<int[]> ORDERS = new ArrayList<>();
    static final Map<Integer, List<int[]>> WAYS = new HashMap<>();
    static final Map<Integer, java.util.Optional<int[]>> LEAST = new HashMap<>();
    static final long[] LOW = new long[1 << 20];
    static final long[] HIGH = new long[1 << 20];
    static final int[] faults = new int[7];
    static int fullBooks;
    static {
      for (int i = 0; i < 100000; i++) {
        int[] o = {i / 10000, i / 1000 % 10, i / 100 % 10, i / 10 % 10, i % 10};
        int bits = 0;
        for (int d : o) bits |= 1 << d;
        if (bits == 31) ORDERS.add(o);
      }
    }

    State s = new State();
    State image = new State();
    String tape = "";
    int fault = -1;
    int place = -1;

    static int at(int order, int doing) {
      for (int i = 0; i < 5; i++) if (ORDERS.get(order)[i] == doing) return i;
      throw new IllegalStateException();
    }

    static boolean isSaying(int kind, int a, int b) {
      if (kind < 0 || kind > 4 || a < 0 || a > 4 || b < 0 || b > 4) return false;
      return kind == 2 || kind == 3 ? a == b : a != b;
    }

    static boolean holds(int order, int kind, int a, int b) {
      switch (kind) {
        case 0: return at(order, a) < at(order, b);
        case 1: return at(order, a) == at(order, b) - 1;
        case 2: return at(order, a) == 0;
        case 3: return at(order, a) == 4;
        default: return Math.abs(at(order, a) - at(order, b)) == 1;
      }
    }

    /** All ways to tell an ORDER: how many SAYINGS of each KIND, by trying all sets of SAYINGS. */
    static List<int[]> ways(int order) {
      return WAYS.computeIfAbsent(order, o -> {
        List<int[]> sayings = new ArrayList<>();
        for (int kind = 0; kind < 5; kind++)
          for (int a = 0; a < 5; a++)
            for (int b = 0; b < 5; b++)
              if (isSaying(kind, a, b) && holds(o, kind, a, b) && !(kind == 4 && a > b)) sayings.add(new int[] {kind, a, b});
        int n = sayings.size();
        long[] low = LOW;
        long[] high = HIGH;
        low[0] = -1L >>> 4;
        high[0] = -1L >>> 4;
        long[] oneLow = new long[n];
        long[] oneHigh = new long[n];
        for (int i = 0; i < n; i++)
          for (int other = 0; other < 120; other++)
            if (holds(other, sayings.get(i)[0], sayings.get(i)[1], sayings.get(i)[2])) {
              if (other < 60) oneLow[i] |= 1L << other; else oneHigh[i] |= 1L << other - 60;
            }
        boolean[] found = new boolean[1 << 20];
        List<int[]> result = new ArrayList<>();
        for (int set = 1; set < 1 << n; set++) {
          int last = Integer.numberOfTrailingZeros(set);
          int rest = set & set - 1;
          low[set] = low[rest] & oneLow[last];
          high[set] = high[rest] & oneHigh[last];
          if (Long.bitCount(low[set]) + Long.bitCount(high[set]) == 1) {
            int[] count = new int[5];
            for (int i = 0; i < n; i++) if ((set >> i & 1) == 1) count[sayings.get(i)[0]]++;
            int key = ((count[0] * 8 + count[1]) * 8 + count[2]) * 8 * 8 + count[3] * 8 + count[4];
            if (!found[key]) {
              found[key] = true;
              result.add(count);
            }
          }
        }
        return result;
      });
    }

    boolean form(int f) { return f >= 0 && f < s.forms.size(); }
    boolean person(int p) { return p >= 0 && p < s.people.size(); }
    boolean story(int t) { return t >= 0 && t < s.stories.size(); }
    boolean formSet(int bits) { return bits >= 0 && (bits >> s.forms.size()) == 0; }
    static boolean order(int o) { return o >= 0 && o < 120; }
    static boolean doing(int d) { return d >= 0 && d < 5; }

    /** LEAST: LENGTH and SAYINGS, or null. */
    int[] least(int forms, int story) {
      int[] price = new int[5];
      for (int f = 0; f < s.forms.size(); f++)
        if ((forms >> f & 1) == 1) {
          int kind = s.forms.get(f)[0];
          price[kind] = price[kind] == 0 ? s.forms.get(f)[1] : Math.min(price[kind], s.forms.get(f)[1]);
        }
      int key = s.stories.get(story);
      for (int one : price) key = key * 10 + one;
      return LEAST.computeIfAbsent(key, k -> cheapest(s.stories.get(story), price)).orElse(null);
    }

    static java.util.Optional<int[]> cheapest(int order, int[] price) {
      int[] best = null;
      for (int[] way : ways(order)) {
        int cost = 0;
        int sayings = 0;
        boolean can = true;
        for (int kind = 0; kind < 5; kind++) {
          can &= way[kind] == 0 || price[kind] > 0;
          cost += way[kind] * price[kind];
          sayings += way[kind];
        }
        if (can && (best == null || cost < best[0] || cost == best[0] && sayings < best[1])) best = new int[] {cost, sayings};
      }
      return java.util.Optional.ofNullable(best);
    }

    Ahead ahead() {
      Ahead a = new Ahead();
      a.year = s.year;
      a.x = s.x;
      a.people = new ArrayList<>();
      for (Person p : s.people) a.people.add(p.copy());
      a.book = new ArrayList<>(s.book);
      return a;
    }

    void step() {
      s.steps.add(ahead());
      if (s.steps.size() > 30) s.steps.remove(0);
    }

    Parsed rule() { return s.rule < 0 ? null : s.texts.get(s.rule); }

    int fades(Parsed text, int p, int f) {
      if (text == null || text.fades == null) return s.people.get(p).age / 20;
      return Math.max(0, Math.min(10, value(text.fades, p, f)));
    }

    int learns(int p, int f) {
      Parsed text = rule();
      if (text == null || text.learns == null) return 1;
      return Math.max(-99, Math.min(99, value(text.learns, p, f)));
    }

    static int clamp(long v) { return (int) Math.max(-1000000, Math.min(1000000, v)); }

    int value(Node n, int p, int f) {
      Person who = s.people.get(p);
      switch (n.what) {
        case "year": return s.year;
        case "form": return f;
        case "kind": return f < s.forms.size() ? s.forms.get(f)[0] : 0;
        case "length": return f < s.forms.size() ? s.forms.get(f)[1] : 0;
        case "age": return who.age;
        case "who": return p;
        case "knows": return Integer.bitCount(who.knows);
        case "breath": return who.breath;
        case "half": {
          int v = value(n.parts[0], p, f);
          int half = (Math.abs(v) + 1) / 2;
          return v < 0 ? -half : half;
        }
        case "known": {
          int v = value(n.parts[0], p, f);
          int many = 0;
          if (form(v)) for (Person q : s.people) many += q.knows >> v & 1;
          return many;
        }
        case "neg": return -value(n.parts[0], p, f);
        case "if": return value(n.parts[0], p, f) == 1 ? value(n.parts[1], p, f) : value(n.parts[2], p, f);
        case "not": return 1 - value(n.parts[0], p, f);
        default: break;
      }
      if (Character.isDigit(n.what.charAt(0))) return Integer.parseInt(n.what);
      long a = value(n.parts[0], p, f);
      long b = value(n.parts[1], p, f);
      switch (n.what) {
        case "+": return clamp(a + b);
        case "-": return clamp(a - b);
        case "*": return clamp(a * b);
        case "/": return b == 0 ? 0 : clamp(a / b);
        case "<": return a < b ? 1 : 0;
        case "<=": return a <= b ? 1 : 0;
        case ">": return a > b ? 1 : 0;
        case ">=": return a >= b ? 1 : 0;
        case "=": return a == b ? 1 : 0;
        case "#": return a != b ? 1 : 0;
        case "or": return a + b > 0 ? 1 : 0;
        case "and": return a + b == 2 ? 1 : 0;
        default: throw new IllegalStateException(n.what);
      }
    }

    int anew() {
      int x = s.x;
      s.x = (int) ((s.x * 521L + 401) % 30703);
      return x;
    }

    boolean teach(int f, int from, int to, boolean step) {
      if (!form(f) || !person(from) || !person(to)) return false;
      Person a = s.people.get(from);
      Person b = s.people.get(to);
      if ((a.knows >> f & 1) == 0 || (b.knows >> f & 1) == 1 || a.breath < s.forms.get(f)[1] || learns(to, f) <= 0) return false;
      if (step) step();
      b.knows |= 1 << f;
      a.breath -= s.forms.get(f)[1];
      return true;
    }

    boolean forget(int p, int f, boolean step) {
      if (!person(p) || !form(f) || (s.people.get(p).knows >> f & 1) == 0) return false;
      if (step) step();
      s.people.get(p).knows -= 1 << f;
      return true;
    }

    int tell(int p, int t, boolean step) {
      if (!person(p) || !story(t)) return -1;
      int[] least = least(s.people.get(p).knows, t);
      if (least == null || s.people.get(p).breath < least[0]) return -1;
      if (step) step();
      s.people.get(p).breath -= least[0];
      s.book.add(new int[] {s.year, p, t, least[0]});
      if (s.book.size() > 30) {
        s.book.remove(0);
        fullBooks++;
      }
      return least[0];
    }

    int oneYear(boolean step) {
      if (step) step();
      int gone = 0;
      for (int p = 0; p < s.people.size(); p++) {
        Person who = s.people.get(p);
        for (int f = 0; f < s.forms.size(); f++) {
          if ((who.knows >> f & 1) == 0) continue;
          int odds = fades(rule(), p, f);
          if (anew() % 10 < odds) {
            who.knows -= 1 << f;
            gone++;
          }
        }
        who.age = Math.min(99, who.age + 1);
        who.breath = Math.min(99, who.breath + 10);
      }
      s.year++;
      return gone;
    }

    int addForm(int kind, int length) {
      if (kind < 0 || kind > 4 || length < 1 || length > 9 || s.forms.size() == 8) return -1;
      s.forms.add(new int[] {kind, length});
      return s.forms.size() - 1;
    }

    int addPerson(int age, int forms) {
      if (age < 0 || age > 99 || !formSet(forms) || s.people.size() == 6) return -1;
      s.people.add(new Person(age, forms));
      s.told.add(new int[] {age, forms});
      return s.people.size() - 1;
    }

    int addStory(int order) {
      if (!order(order) || s.stories.size() == 4) return -1;
      s.stories.add(order);
      return s.stories.size() - 1;
    }

    int played(Parsed text) {
      for (int i = 0; i < text.clauses.size(); i++) {
        Clause c = text.clauses.get(i);
        int[] n = c.numbers;
        boolean done = true;
        switch (c.word) {
          case "form": done = addForm(n[0], n[1]) >= 0; break;
          case "person": done = addPerson(n[0], n[1]) >= 0; break;
          case "story": done = addStory(n[0]) >= 0; break;
          case "teach": done = teach(n[0], n[1], n[2], true); break;
          case "forget": done = forget(n[1], n[0], true); break;
          case "tell": done = tell(n[1], n[0], true) >= 0; break;
          case "year":
            for (int y = 0; y < n[0] && done; y++) {
              done = s.year < 9999;
              if (done) oneYear(true);
            }
            break;
          default: break;
        }
        if (!done) return i;
      }
      return -1;
    }

    void ages(int seed, int n) {
      step();
      s.x = seed * 2 + 271;
      for (int i = 0; i < n; i++) {
        int x = anew();
        int forms = s.forms.size();
        int people = s.people.size();
        int stories = s.stories.size();
        int todo = x % 6;
        if (todo <= 1 && forms > 0 && people > 0) teach(x % forms, x / 6 % people, x / 5 % people, false);
        if (todo == 2 && forms > 0 && people > 0) forget(x / 6 % people, x % forms, false);
        if (todo == 3 && stories > 0 && people > 0) tell(x / 6 % people, x % stories, false);
        if (todo >= 4 && s.year < 9999) oneYear(false);
      }
    }

    int undo() {
      if (s.steps.isEmpty()) return -1;
      Ahead a = s.steps.remove(s.steps.size() - 1);
      s.year = a.year;
      s.x = a.x;
      s.book = new ArrayList<>(a.book);
      for (int p = 0; p < s.people.size(); p++) {
        s.people.set(p, p < a.people.size() ? a.people.get(p).copy() : new Person(s.told.get(p)[0], s.told.get(p)[1]));
      }
      return s.steps.size();
    }

    List<Integer> could() {
      List<Integer> result = new ArrayList<>();
      for (int o = 0; o < 120; o++) {
        boolean all = true;
        for (int[] saying : s.said) all &= holds(o, saying[0], saying[1], saying[2]);
        if (all) result.add(o);
      }
      return result;
    }

    int ahead(List<Integer> orders, int a, int b) {
      int n = 0;
      for (int o : orders) if (at(o, a) < at(o, b)) n++;
      return n;
    }

    int blurred(int forms, int story) {
      int n = 0;
      for (int o = 0; o < 120; o++) {
        boolean all = true;
        for (int f = 0; f < s.forms.size(); f++)
          for (int a = 0; a < 5; a++)
            for (int b = 0; b < 5; b++) {
              int kind = s.forms.get(f)[0];
              if ((forms >> f & 1) == 1 && isSaying(kind, a, b) && holds(s.stories.get(story), kind, a, b) && !holds(o, kind, a, b)) all = false;
            }
        if (all) n++;
      }
      return n;
    }

    int canTell(int knows) {
      int bits = 0;
      for (int t = 0; t < s.stories.size(); t++) if (least(knows, t) != null) bits |= 1 << t;
      return bits;
    }

    int cover(int p) {
      int all = (1 << s.stories.size()) - 1;
      int knows = s.people.get(p).knows;
      int best = -1;
      int bestMany = 99;
      int bestLength = 999;
      for (int set = 0; set < 1 << s.forms.size(); set++) {
        if ((set & knows) != 0 || canTell(knows | set) != all) continue;
        int length = 0;
        for (int f = 0; f < s.forms.size(); f++) if ((set >> f & 1) == 1) length += s.forms.get(f)[1];
        int many = Integer.bitCount(set);
        if (many < bestMany || many == bestMany && length < bestLength) {
          best = set;
          bestMany = many;
          bestLength = length;
        }
      }
      return best;
    }

    int keep() {
      int bits = 0;
      int now = 0;
      for (Person p : s.people) now |= canTell(p.knows);
      for (int f = 0; f < s.forms.size(); f++) {
        int then = 0;
        int known = 0;
        for (Person p : s.people) {
          then |= canTell(p.knows & ~(1 << f));
          known |= p.knows;
        }
        if ((known >> f & 1) == 1 && (now & ~then) != 0) bits |= 1 << f;
      }
      return bits;
    }

    static int apart(int o, int q) {
      int n = 0;
      for (int i = 0; i < 5; i++)
        for (int j = i + 1; j < 5; j++)
          if (at(q, ORDERS.get(o)[i]) > at(q, ORDERS.get(o)[j])) n++;
      return n;
    }

    int middle() {
      int best = -1;
      int least = 9999;
      for (int o = 0; o < 120 && !s.stories.isEmpty(); o++) {
        int sum = 0;
        for (int t : s.stories) sum += apart(o, t);
        if (sum < least) {
          least = sum;
          best = o;
        }
      }
      return best;
    }

    long lost(int f, int n, boolean low) {
      java.math.BigInteger up = java.math.BigInteger.ONE;
      java.math.BigInteger down = java.math.BigInteger.ONE;
      for (int p = 0; p < s.people.size(); p++) {
        if ((s.people.get(p).knows >> f & 1) == 0) continue;
        long odds = fades(rule(), p, f);
        long stays = 1;
        long all = 1;
        for (int i = 0; i < n; i++) {
          stays *= 10 - odds;
          all *= 10;
        }
        up = up.multiply(java.math.BigInteger.valueOf(all - stays));
        down = down.multiply(java.math.BigInteger.valueOf(all));
      }
      java.math.BigInteger g = up.gcd(down);
      return (low ? down : up).divide(g).longValueExact();
    }

    int heirs(int f) {
      int bits = 0;
      for (int to = 0; to < s.people.size(); to++)
        for (int from = 0; from < s.people.size(); from++)
          if ((s.people.get(from).knows >> f & 1) == 1 && (s.people.get(to).knows >> f & 1) == 0
              && s.people.get(from).breath >= s.forms.get(f)[1] && learns(to, f) > 0) bits |= 1 << to;
      return bits;
    }

    int text() {
      if (s.texts.size() == 4) return -1;
      Parser parser = new Parser(tape);
      Parsed read = parser.parse();
      tape = "";
      fault = parser.fault;
      place = parser.place;
      faults[fault]++;
      if (read == null) return -1;
      s.texts.add(read);
      return s.texts.size() - 1;
    }

    long answer(String name, Object[] a) {
      int[] i = new int[6];
      for (int k = 0; k < a.length; k++) i[k] = a[k] instanceof Integer n ? n : 0;
      boolean flag = a.length > 0 && a[a.length - 1] instanceof Boolean b && b;
      switch (name) {
        case "form": return addForm(i[0], i[1]);
        case "person": return addPerson(i[0], i[1]);
        case "story": return addStory(i[0]);
        case "feed": {
          if (tape.length() + 20 > 300) return -1;
          StringBuilder b = new StringBuilder(tape);
          for (int k = 0; k < 20; k++) b.append((char) (i[k / 4] >>> 24 - k % 4 * 8 & 255));
          tape = b.toString();
          return tape.length();
        }
        case "end":
          if (i[0] < 0 || i[0] > tape.length()) return -1;
          tape = tape.substring(0, i[0]);
          return i[0];
        case "text": return text();
        case "fault": return fault < 0 ? -1 : i[0] == 0 ? fault : i[0] == 1 ? place : -1;
        case "by":
          if (i[0] < -1 || i[0] >= s.texts.size()) return 0;
          s.rule = i[0];
          return 1;
        case "teach": return teach(i[0], i[1], i[2], true) ? 1 : 0;
        case "forget": return forget(i[0], i[1], true) ? 1 : 0;
        case "tell": return tell(i[0], i[1], true);
        case "year": {
          if (i[0] < 1 || i[0] > 60 || s.year + i[0] > 9999) return -1;
          int gone = 0;
          for (int y = 0; y < i[0]; y++) gone += oneYear(true);
          return gone;
        }
        case "played": return i[0] < 0 || i[0] >= s.texts.size() ? -2 : played(s.texts.get(i[0]));
        case "ages":
          if (i[0] < 0 || i[0] > 9999 || i[1] < 1 || i[1] > 40) return -1;
          ages(i[0], i[1]);
          return s.year;
        case "undo": return undo();
        case "image": image = s.copy(); return s.year;
        case "back": s = image.copy(); return s.year;
        default: return asked(name, i, flag);
      }
    }

    long asked(String name, int[] i, boolean flag) {
      switch (name) {
        case "of":
          if (!person(i[0]) || i[1] < 0 || i[1] > 3) return -1;
          Person p = s.people.get(i[0]);
          return new int[] {p.age, p.knows, p.breath, canTell(p.knows)}[i[1]];
        case "ofForm":
          if (!form(i[0]) || i[1] < 0 || i[1] > 2) return -1;
          int knowers = 0;
          for (int k = 0; k < s.people.size(); k++) knowers |= (s.people.get(k).knows >> i[0] & 1) << k;
          return new int[] {s.forms.get(i[0])[0], s.forms.get(i[0])[1], knowers}[i[1]];
        case "law":
          if (!person(i[0]) || !form(i[1])) return -100;
          return flag ? fades(rule(), i[0], i[1]) : learns(i[0], i[1]);
        case "is":
          int known = 0;
          for (Person q : s.people) known |= q.knows;
          return i[0] < 0 || i[0] > 3 ? -2 : new int[] {s.year, s.x, known, s.stories.size()}[i[0]];
        case "book":
          if (i[0] == -1) return s.book.size();
          return i[0] < 0 || i[0] >= s.book.size() || i[1] < 0 || i[1] > 3 ? -2 : s.book.get(i[0])[i[1]];
        case "foretold": {
          if (i[0] < 1 || i[0] > 60 || !person(i[1]) || i[2] < 0 || i[2] > 1) return -1;
          State now = s;
          s = s.copy();
          for (int y = 0; y < i[0] && s.year < 9999; y++) oneYear(false);
          int result = i[2] == 0 ? s.people.get(i[1]).knows : s.people.get(i[1]).age;
          s = now;
          return result;
        }
        case "order": return order(i[0]) && doing(i[1]) ? ORDERS.get(i[0])[i[1]] : -1;
        case "number":
          for (int o = 0; o < 120; o++) if (Arrays.equals(ORDERS.get(o), Arrays.copyOf(i, 5))) return o;
          return -1;
        case "holds": return order(i[0]) && isSaying(i[1], i[2], i[3]) && holds(i[0], i[1], i[2], i[3]) ? 1 : 0;
        case "say":
          if (i[0] == -1) s.said.clear();
          else if (!isSaying(i[0], i[1], i[2]) || s.said.size() == 8) return -2;
          else s.said.add(new int[] {i[0], i[1], i[2]});
          return s.said.size();
        case "could": {
          List<Integer> c = could();
          return i[0] == -1 ? c.size() : i[0] < 0 || i[0] >= c.size() ? -2 : c.get(i[0]);
        }
        case "likely": {
          List<Integer> c = could();
          if (!doing(i[0]) || !doing(i[1]) || i[0] == i[1] || c.isEmpty()) return -1;
          int up = ahead(c, i[0], i[1]);
          int down = c.size();
          for (int k = down; k > 1; k--) if (up % k == 0 && down % k == 0) {
            up /= k;
            down /= k;
          }
          return flag ? down : up;
        }
        case "sure": {
          List<Integer> c = could();
          if (!doing(i[0]) || c.isEmpty()) return -1;
          int bits = 0;
          for (int b = 0; b < 5; b++) if (b != i[0] && ahead(c, b, i[0]) == c.size()) bits |= 1 << b;
          return bits;
        }
        case "ask": {
          List<Integer> c = could();
          int best = -1;
          int few = 999;
          for (int a = 0; a < 5 && c.size() > 1; a++)
            for (int b = a + 1; b < 5; b++) {
              int left = Math.max(ahead(c, a, b), ahead(c, b, a));
              if (left < few) {
                few = left;
                best = 10 * a + b;
              }
            }
          return best;
        }
        default: return askedToo(name, i, flag);
      }
    }

    long askedToo(String name, int[] i, boolean flag) {
      switch (name) {
        case "least": {
          if (!formSet(i[0]) || !story(i[1])) return -1;
          int[] l = least(i[0], i[1]);
          return l == null ? -1 : l[flag ? 1 : 0];
        }
        case "blurred": return !formSet(i[0]) || !story(i[1]) ? -1 : blurred(i[0], i[1]);
        case "cover": return person(i[0]) ? cover(i[0]) : -1;
        case "keep": return keep();
        case "both": {
          if (!person(i[0]) || !person(i[1]) || !story(i[2])) return -1;
          int[] l = least(s.people.get(i[0]).knows | s.people.get(i[1]).knows, i[2]);
          return l == null ? -1 : l[0];
        }
        case "apart": return order(i[0]) && order(i[1]) ? apart(i[0], i[1]) : -1;
        case "middle": return middle();
        case "lost": return form(i[0]) && i[1] >= 1 && i[1] <= 3 ? lost(i[0], i[1], flag) : -1;
        case "heirs": return form(i[0]) ? heirs(i[0]) : -1;
        case "seen":
          if (i[0] == -1) s.seen.clear();
          else if (!person(i[0]) || i[1] < 0 || i[1] > 10 || s.seen.size() == 8) return -2;
          else s.seen.add(new int[] {i[0], i[1]});
          return s.seen.size();
        case "whose": {
          int bits = 0;
          for (int t = 0; t < s.texts.size(); t++) {
            boolean all = true;
            for (int[] one : s.seen) all &= fades(s.texts.get(t), one[0], 0) == one[1];
            if (all) bits |= 1 << t;
          }
          return bits;
        }
        case "richest": {
          int best = -1;
          for (int p = 0; p < s.people.size(); p++) {
            int many = Integer.bitCount(s.people.get(p).knows);
            if (many > 0 && (best < 0 || many > Integer.bitCount(s.people.get(best).knows))) best = p;
          }
          return best;
        }
        case "rarest": {
          int best = -1;
          int few = 99;
          for (int f = 0; f < s.forms.size(); f++) {
            int many = 0;
            for (Person p : s.people) many += p.knows >> f & 1;
            if (many > 0 && many < few) {
              few = many;
              best = f;
            }
          }
          return best;
        }
        case "silent": {
          int bits = 0;
          for (int p = 0; p < s.people.size(); p++) if (canTell(s.people.get(p).knows) == 0) bits |= 1 << p;
          return bits;
        }
        case "ledger": {
          if (i[0] != -1 && !person(i[0])) return -2;
          int sum = 0;
          for (int[] t : s.book) if (i[0] == -1 || t[1] == i[0]) sum += t[3];
          return sum;
        }
        case "about":
          return i[0] < 0 || i[0] > 8 ? -2 : new int[] {s.forms.size(), s.people.size(), s.stories.size(), s.texts.size(), s.rule,
            s.steps.size(), s.said.size(), s.seen.size(), tape.length()}[i[0]];
        default: throw new IllegalStateException(name);
      }
    }
  }

  /** Reads a TEXT by throwing at the first FAULT. */
  static final class Parser {
    static final class Bad extends RuntimeException {
      private static final long serialVersionUID = 1L;
    }

    final String tape;
    final List<String> tokens = new ArrayList<>();
    final List<Integer> places = new ArrayList<>();
    int at;
    int fault;
    int place = -1;
    boolean inFades;

    Parser(String tape) {
      this.tape = tape;
      java.util.regex.Matcher m = java.util.regex.Pattern.compile("[ \n]+|([a-zA-Z]+|[0-9]+|<=|>=|[<>=#+*/();-])|((?s).)").matcher(tape);
      while (m.find()) {
        if (m.group(1) != null || m.group(2) != null) {
          tokens.add(m.group(1) != null ? m.group(1) : "");
          places.add(m.start());
        }
      }
      tokens.add("$");
      places.add(tape.length());
    }

    Bad bad(int number) {
      fault = number;
      place = places.get(at);
      return new Bad();
    }

    boolean is(String token) { return tokens.get(at).equals(token); }

    boolean isOf(String... any) { return Arrays.asList(any).contains(tokens.get(at)); }

    void need(String token) {
      if (!is(token)) throw bad(1);
      at++;
    }

    boolean isNumber() { return !tokens.get(at).isEmpty() && Character.isDigit(tokens.get(at).charAt(0)); }

    int number(int low, int high) {
      if (!isNumber()) throw bad(1);
      java.math.BigInteger v = new java.math.BigInteger(tokens.get(at));
      if (v.bitLength() > 20 || v.intValue() < low || v.intValue() > high) throw bad(2);
      at++;
      return v.intValue();
    }

    Parsed parse() {
      try {
        Parsed text = new Parsed();
        while (!is("$")) text.clauses.add(clause(text));
        return text;
      } catch (Bad e) {
        return null;
      }
    }

    Clause clause(Parsed text) {
      Clause c = new Clause();
      c.word = tokens.get(at);
      if (!isOf("fades", "learns", "form", "person", "story", "teach", "forget", "tell", "year")) throw bad(1);
      if (is("fades") && text.fades != null || is("learns") && text.learns != null) throw bad(4);
      if (text.clauses.size() == 24) throw bad(6);
      at++;
      switch (c.word) {
        case "fades": inFades = true; text.fades = sum(0); break;
        case "learns": inFades = false; text.learns = sum(0); break;
        case "form": c.numbers[0] = number(0, 4); need("length"); c.numbers[1] = number(1, 9); break;
        case "person": c.numbers[0] = number(0, 99); need("knows"); c.numbers[1] = number(0, 255); break;
        case "story": c.numbers[0] = number(0, 119); break;
        case "teach": c.numbers[0] = number(0, 7); need("by"); c.numbers[1] = number(0, 5); need("to"); c.numbers[2] = number(0, 5); break;
        case "forget": c.numbers[0] = number(0, 7); need("by"); c.numbers[1] = number(0, 5); break;
        case "tell": c.numbers[0] = number(0, 3); need("by"); c.numbers[1] = number(0, 5); break;
        default: c.numbers[0] = number(1, 60); break;
      }
      need(";");
      return c;
    }

    Node sum(int open) {
      Node left = product(open);
      while (isOf("+", "-")) {
        String sign = tokens.get(at++);
        left = new Node(sign, left, product(open));
      }
      return left;
    }

    Node product(int open) {
      Node left = one(open);
      while (isOf("*", "/")) {
        String sign = tokens.get(at++);
        left = new Node(sign, left, one(open));
      }
      return left;
    }

    Node one(int open) {
      if (isNumber()) return new Node("" + number(0, 9999));
      if (is("breath") && inFades) throw bad(5);
      if (isOf("year", "form", "kind", "length", "age", "who", "knows", "breath")) return new Node(tokens.get(at++));
      if (!isOf("(", "-", "half", "known", "if")) throw bad(1);
      if (open == 8) throw bad(3);
      String word = tokens.get(at++);
      switch (word) {
        case "(": {
          Node n = sum(open + 1);
          need(")");
          return n;
        }
        case "if": {
          Node a = either(open + 1);
          need("then");
          Node b = sum(open + 1);
          need("else");
          Node c = sum(open + 1);
          need("end");
          return new Node("if", a, b, c);
        }
        default: return new Node(word.equals("-") ? "neg" : word, one(open + 1));
      }
    }

    Node either(int open) {
      Node left = both(open);
      while (is("or")) {
        at++;
        left = new Node("or", left, both(open));
      }
      return left;
    }

    Node both(int open) {
      Node left = ask(open);
      while (is("and")) {
        at++;
        left = new Node("and", left, ask(open));
      }
      return left;
    }

    Node ask(int open) {
      if (is("not")) {
        if (open == 8) throw bad(3);
        at++;
        return new Node("not", ask(open + 1));
      }
      Node left = sum(open);
      if (!isOf("<", "<=", ">", ">=", "=", "#")) throw bad(1);
      String sign = tokens.get(at++);
      return new Node(sign, left, sum(open));
    }
  }
}
