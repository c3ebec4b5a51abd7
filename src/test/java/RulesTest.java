import java.lang.reflect.Constructor;
import java.lang.reflect.Field;
import java.lang.reflect.Method;
import java.lang.reflect.Modifier;
import java.nio.charset.StandardCharsets;
import java.nio.file.Files;
import java.nio.file.Path;
import java.util.ArrayList;
import java.util.Arrays;
import java.util.HashSet;
import java.util.List;
import java.util.Set;
import java.util.TreeSet;
import java.util.regex.Matcher;
import java.util.regex.Pattern;

/** The class keeps to the document's face and to the rules of ../shared/LANGUAGE.md that a test can see. */
public final class RulesTest {
  private static int wrong = 0;

  private static final String[] FACE = {
    "int form(int,int)", "int person(int,int)", "int story(int)", "int feed(int,int,int,int,int)", "int end(int)", "int text()",
    "int fault(int)", "boolean by(int)", "boolean teach(int,int,int)", "boolean forget(int,int)", "int tell(int,int)", "int year(int)",
    "int played(int)", "int ages(int,int)", "int undo()", "int of(int,int)", "int ofForm(int,int)", "int law(int,int,boolean)",
    "int is(int)", "int book(int,int)", "int foretold(int,int,int)", "int order(int,int)", "int number(int,int,int,int,int)",
    "boolean holds(int,int,int,int)", "int say(int,int,int)", "int could(int)", "int likely(int,int,boolean)", "int sure(int)",
    "int ask()", "int least(int,int,boolean)", "int blurred(int,int)", "int cover(int)", "int keep()", "int both(int,int,int)",
    "int apart(int,int)", "int middle()", "long lost(int,int,boolean)", "int heirs(int)", "int seen(int,int)", "int whose()",
    "int richest()", "int rarest()", "int silent()", "int ledger(int)", "int image()", "int back()", "int about(int)"
  };

  private static void fail(String what) {
    wrong++;
    System.out.println(what);
  }

  public static void main(String[] args) throws Exception {
    face();
    List<Class<?>> classes = new ArrayList<>(Arrays.asList(PerfectFerried.class.getDeclaredClasses()));
    if (classes.size() + 1 > 12) fail("rule 11: more than twelve classes");
    for (Class<?> c : classes) inside(c);
    classes.add(PerfectFerried.class);
    for (Class<?> c : classes) members(c);
    String source = Files.readString(Path.of("src/main/java/PerfectFerried.java"), StandardCharsets.ISO_8859_1);
    source(source);
    System.out.println(wrong == 0 ? "the rules are kept" : wrong + " rules are broken");
    if (wrong != 0) System.exit(1);
  }

  private static void face() {
    Set<String> due = new TreeSet<>(Arrays.asList(FACE));
    Set<String> is = new TreeSet<>();
    int mask = Modifier.PUBLIC | Modifier.PROTECTED | Modifier.PRIVATE;
    for (Method m : PerfectFerried.class.getDeclaredMethods()) {
      if ((m.getModifiers() & mask) == Modifier.PRIVATE) continue;
      StringBuilder b = new StringBuilder(m.getReturnType() + " " + m.getName() + "(");
      for (Class<?> p : m.getParameterTypes()) b.append(b.charAt(b.length() - 1) == '(' ? "" : ",").append(p);
      is.add(b.append(")").toString());
      if (m.getModifiers() != Modifier.PUBLIC) fail("rule 1: " + m);
    }
    if (!is.equals(due)) fail("rule 1: the face is " + is);
    for (Field f : PerfectFerried.class.getDeclaredFields()) {
      boolean constant = f.getName().equals("NONE") && f.getModifiers() == (Modifier.PUBLIC | Modifier.STATIC | Modifier.FINAL);
      if (!constant && (f.getModifiers() & mask) != Modifier.PRIVATE) fail("rule 1: " + f);
    }
    Constructor<?>[] constructors = PerfectFerried.class.getDeclaredConstructors();
    if (constructors.length != 1 || constructors[0].getModifiers() != Modifier.PUBLIC || constructors[0].getParameterCount() != 0) fail("rule 1: the constructor");
    if (PerfectFerried.class.getModifiers() != (Modifier.PUBLIC | Modifier.FINAL)) fail("rule 1: the class is public and final");
  }

  private static void inside(Class<?> c) {
    if (!Modifier.isStatic(c.getModifiers()) || Modifier.isPublic(c.getModifiers()) || Modifier.isProtected(c.getModifiers())) fail("rule 1, 2: " + c);
    if (c.getDeclaredClasses().length > 0) fail("a class inside a class inside: " + c);
  }

  private static void members(Class<?> c) {
    Set<String> names = new HashSet<>();
    for (String one : FACE) names.add(one.substring(one.indexOf(' ') + 1, one.indexOf('(')));
    int fields = 0;
    for (Field f : c.getDeclaredFields()) {
      if (!Modifier.isStatic(f.getModifiers())) {
        fields++;
      } else {
        boolean plain = Arrays.asList("int", "long", "boolean", "char", "String", "int[]", "long[]", "char[]", "byte[]").contains(f.getType().getSimpleName());
        if (!Modifier.isFinal(f.getModifiers()) || !plain) fail("rule 5: " + f);
      }
    }
    if (fields > 20) fail("rule 11: " + fields + " fields in " + c);
    for (Method m : c.getDeclaredMethods()) {
      if (m.getParameterCount() > 7) fail("rule 11: " + m);
      if (c != PerfectFerried.class && names.contains(m.getName())) fail("rule 1: the name of " + m);
      if (Modifier.isPrivate(m.getModifiers()) && names.contains(m.getName())) fail("rule 1: the name of " + m);
    }
  }

  private static void source(String source) {
    String bare = source.replaceAll("(?s)/\\*.*?\\*/", "").replaceAll("//[^\n]*", "").replaceAll("\"[^\"\n]*\"", "\"\"");
    for (String word : new String[] {"throw", "throws", "try", "catch", "finally", "synchronized", "assert", "var", "System\\.out", "hashCode", "toString",
        "Thread", "Random", "Exact", "volatile", "transient", "native", "Object", "HashMap", "package"}) {
      if (Pattern.compile("\\b" + word + "\\b").matcher(bare).find()) fail("rule 4, 6: " + word);
    }
    if (bare.contains("->") || bare.contains("::") || bare.contains("Exact(")) fail("rule 2, 4: lambda, method reference or Exact");
    if (Pattern.compile("\\bstatic\\s*\\{").matcher(bare).find()) fail("rule 5: a static block");
    if (bare.contains("\"\" +") || bare.contains("+ \"\"")) fail("rule 10: texts joined by +");
    Matcher imports = Pattern.compile("import ([^;]*);").matcher(bare);
    while (imports.find()) if (!imports.group(1).equals("java.util.Arrays")) fail("rule 4: " + imports.group(1));
    for (int i = 0; i < source.length(); i++) if (source.charAt(i) > 126) fail("a sign above 126 at " + i);
    int start = 0;
    String[] lines = source.split("\n");
    for (int i = 0; i < lines.length; i++) {
      if (lines[i].length() > 130 && !lines[i].contains("String WORDS")) fail("line " + (i + 1) + " is long");
      if (lines[i].matches("^ {4}( {4})?[a-zA-Z].*\\) \\{$")) start = i;
      if (lines[i].matches("^ {4}( {4})?\\}$") && i - start > 60) fail("rule 11: the method at line " + (start + 1));
    }
  }
}
