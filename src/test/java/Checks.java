import java.io.IOException;
import java.nio.charset.StandardCharsets;
import java.nio.file.Files;
import java.nio.file.Path;
import java.util.ArrayList;
import java.util.List;

/** What the tests share: answers that are due, sentences of the document, TEXTS for the tape. */
abstract class Checks {
  static final int BIG = Integer.MAX_VALUE;
  static final int LOW = Integer.MIN_VALUE;
  static final int GOOD = -1;

  static int promise = 0;
  private static String words = "";
  private static int ofThis = 0;
  private static int checks = 0;
  private static int wrong = 0;
  private static final List<String> sentences = new ArrayList<>();
  private static final boolean[] met = new boolean[49];

  /** Begins the test of one sentence, on an object of its own. */
  static PerfectFerried sentence(int number, String quote) {
    endSentence();
    promise = number;
    words = quote;
    ofThis = 0;
    sentences.add(quote);
    met[number] = true;
    return new PerfectFerried();
  }

  /** At the bound and just beyond it: one check alone says too little. */
  private static void endSentence() {
    if (!words.isEmpty() && ofThis < 2) fault("has too few checks");
    words = "";
  }

  static void due(long got, long want) {
    checks++;
    ofThis++;
    if (got != want) fault("answered " + got + ", due is " + want);
  }

  static void due(boolean got, boolean want) {
    checks++;
    ofThis++;
    if (got != want) fault("answered " + got + ", due is " + want);
  }

  static void due(String got, String want) {
    checks++;
    ofThis++;
    if (!got.equals(want)) fault("answered " + got + ", due is " + want);
  }

  private static void fault(String what) {
    wrong++;
    StringBuilder lines = new StringBuilder();
    for (StackTraceElement line : new Throwable().getStackTrace()) {
      if (!line.getClassName().equals("Checks")) lines.append(' ').append(line.getLineNumber());
    }
    System.out.println("promise " + promise + (words.isEmpty() ? "" : " \"" + words + "\"") + ", line" + lines + ": " + what);
  }

  /** Each of these promises has a sentence, and each sentence stands in the document as it is quoted. */
  static void finishBounds(int first, int last) {
    endSentence();
    for (promise = first; promise <= last; promise++) {
      if (!met[promise]) fault("no sentence");
    }
    quotesStand();
    finish();
  }

  static void finish() {
    System.out.println(wrong == 0 ? checks + " answers are as due" + (sentences.isEmpty() ? "" : ", in " + sentences.size() + " sentences")
      : wrong + " answers are not as due");
    if (wrong != 0) System.exit(1);
  }

  private static void quotesStand() {
    String document = "";
    try {
      document = Files.readString(Path.of("../shared/DOC.md"), StandardCharsets.UTF_8).replaceAll("\\s+", " ");
    } catch (IOException e) {
      fault("the document can't be read: " + e);
    }
    for (String quote : sentences) {
      if (!document.contains(quote)) fault("not in the document: " + quote);
    }
  }

  /** The tape has this alone. */
  static void put(PerfectFerried x, String text) {
    x.end(0);
    for (int i = 0; i < text.length(); i += 20) {
      int[] w = new int[5];
      for (int k = 0; k < 20; k++) w[k / 4] = w[k / 4] << 8 | (i + k < text.length() ? text.charAt(i + k) : 0);
      x.feed(w[0], w[1], w[2], w[3], w[4]);
    }
    x.end(text.length());
  }

  static int read(PerfectFerried x, String text) {
    put(x, text);
    return x.text();
  }

  /** 10 times the place, and the number of the FAULT; GOOD if the TEXT has none. */
  static int faultOf(String text) {
    PerfectFerried x = new PerfectFerried();
    int number = read(x, text);
    if (number == 0) return x.fault(0) == 0 && x.fault(1) == -1 ? GOOD : -99;
    return x.fault(1) * 10 + x.fault(0);
  }

  /** This TEXT rules. */
  static void rule(PerfectFerried x, String text) {
    if (!x.by(read(x, text))) fault("this can't rule: " + text);
  }

  /** A PERSON of AGE 30 (number 1) that knows FORMS 0 and 2; one of 9 (0) that knows FORM 0. */
  static PerfectFerried shore() {
    PerfectFerried x = new PerfectFerried();
    x.form(0, 2);
    x.form(3, 7);
    x.form(4, 3);
    x.person(9, 1);
    x.person(30, 5);
    x.story(7);
    return x;
  }

  /** What a law says of PERSON 1 and FORM 2 of shore(). */
  static int says(String law, boolean fades) {
    PerfectFerried x = shore();
    if (read(x, (fades ? "fades " : "learns ") + law + ";") != 0) return -1000;
    x.by(0);
    return x.law(1, 2, fades);
  }

  static int learns(String law) {
    return says(law, false);
  }

  static int fades(String law) {
    return says(law, true);
  }

  /** All there can be: 8 FORMS, 6 PEOPLE, 4 STORIES, 4 TEXTS (none rules), 8 SAID, 8 SEEN. */
  static void fill(PerfectFerried x) {
    for (int i = x.about(0); i < 8; i++) x.form(i % 5, i + 1);
    for (int i = x.about(1); i < 6; i++) x.person(i, 255);
    for (int i = x.about(2); i < 4; i++) x.story(i * 30);
    for (int i = x.about(3); i < 4; i++) read(x, "fades " + i + ";learns " + i + ";");
    for (int i = x.about(6); i < 8; i++) x.say(0, 0, 1 + i % 4);
    for (int i = x.about(7); i < 8; i++) x.seen(0, i);
  }

  /** Some 170 calls, if it is far: an object has 512. */
  static void passTo(PerfectFerried x, int year) {
    for (int left = year - x.is(0); left > 0; left -= 60) x.year(Math.min(60, left));
  }

  /** All that can be asked of an object in some hundred calls, but for the tape and the FAULT. */
  static String state(PerfectFerried x) {
    StringBuilder b = new StringBuilder();
    for (int what = 0; what <= 7; what++) b.append(x.about(what)).append(' ');
    for (int what = 0; what <= 2; what++) b.append(x.is(what)).append(' ');
    for (int p = 0; p < x.about(1); p++) {
      b.append("| ");
      for (int what = 0; what <= 2; what++) b.append(x.of(p, what)).append(' ');
      b.append(x.law(p, 0, true)).append(' ').append(x.law(p, 0, false)).append(' ').append(x.ledger(p)).append(' ');
    }
    for (int f = 0; f < x.about(0); f++) b.append("| ").append(x.ofForm(f, 0)).append(' ').append(x.ofForm(f, 1)).append(' ');
    b.append("| ").append(x.book(-1, 0)).append(' ').append(x.book(0, 0)).append(' ').append(x.ledger(-1));
    return b.append(" | ").append(x.middle()).append(' ').append(x.could(-1)).append(' ').append(x.whose()).toString();
  }
}
