/** The bounds that the document names, sentence by sentence: what is asked, and images (promises 23 to 48). */
public final class BoundsOfAskingTest extends Checks {
  public static void main(String[] args) {
    orders();
    numbers();
    holding();
    saying();
    could();
    likely();
    sure();
    asking();
    least();
    blurred();
    toLearn();
    toKeep();
    both();
    apart();
    middle();
    lost();
    heirs();
    seen();
    whose();
    richest();
    rarest();
    silent();
    ledger();
    image();
    back();
    about();
    nothingIsChanged();
    finishBounds(23, 48);
  }

  private static void orders() {
    PerfectFerried x = sentence(23, "An ORDER: the DOING at a place. NONE for others.");
    for (int at = 0; at < 5; at++) {
      due(x.order(0, at), at);
      due(x.order(119, at), 4 - at);
    }
    for (int wrong : new int[] {-1, 120, LOW, BIG}) for (int at = 0; at < 5; at++) due(x.order(wrong, at), -1);
    for (int wrong : new int[] {-1, 5, LOW, BIG}) {
      due(x.order(0, wrong), -1);
      due(x.order(119, wrong), -1);
    }

    x = sentence(23, "ORDERS 0 .. 119 by their first DOING, then the next, .. (0 is 0 1 2 3 4, 119 is 4 3 2 1 0).");
    // where the first, the second, the third DOING becomes another one
    int[] number = {1, 2, 5, 6, 23, 24, 47, 48, 118};
    int[] digits = {1243, 1324, 1432, 2134, 4321, 10234, 14320, 20134, 43201};
    for (int i = 0; i < number.length; i++) {
      int rest = digits[i];
      for (int at = 4; at >= 0; at--) {
        due(x.order(number[i], at), rest % 10);
        rest /= 10;
      }
    }
  }

  private static void numbers() {
    PerfectFerried x = sentence(24, "The number of an ORDER. NONE for others.");
    due(x.number(0, 1, 2, 3, 4), 0);
    due(x.number(4, 3, 2, 1, 0), 119);
    due(x.number(0, 4, 3, 2, 1), 23);
    due(x.number(1, 0, 2, 3, 4), 24);
    due(x.number(-1, 1, 2, 3, 4), -1);
    due(x.number(0, 1, 2, 3, 5), -1);
    due(x.number(5, 4, 3, 2, 1), -1);
    due(x.number(-1, 0, 1, 2, 3), -1);
    due(x.number(-1, -1, -1, -1, -1), -1);
    due(x.number(LOW, LOW, LOW, LOW, LOW), -1);
    due(x.number(BIG, BIG, BIG, BIG, BIG), -1);

    x = sentence(24, "An ORDER is of DOINGS 0 .. 4, each once");
    int[] d = {0, 1, 2, 3, 4};
    due(x.number(0, 1, 2, 3, 4), 0);
    for (int i = 0; i < 5; i++) {
      for (int other : new int[] {-1, 5, (i + 1) % 5, LOW, BIG}) {
        int kept = d[i];
        d[i] = other;
        due(x.number(d[0], d[1], d[2], d[3], d[4]), -1);
        d[i] = kept;
      }
    }
    for (int o = 0; o < 50; o++) due(x.number(x.order(o, 0), x.order(o, 1), x.order(o, 2), x.order(o, 3), x.order(o, 4)), o);
    x = new PerfectFerried();
    for (int o = 50; o < 120; o++) due(x.number(x.order(o, 0), x.order(o, 1), x.order(o, 2), x.order(o, 3), x.order(o, 4)), o);
  }

  private static void holding() {
    PerfectFerried x = sentence(25, "0 a is ahead of b, 1 a is just ahead of b, 4 they are side by side (whichever first)");
    // in 0 1 2 3 4 each DOING stands at its own number
    for (int a = 0; a < 5; a++) {
      for (int b = 0; b < 5; b++) {
        due(x.holds(0, 0, a, b), a < b);
        due(x.holds(0, 1, a, b), a + 1 == b);
        due(x.holds(0, 4, a, b), a + 1 == b || b + 1 == a);
        due(x.holds(119, 0, a, b), a > b);
        due(x.holds(119, 1, a, b), a == b + 1);
        due(x.holds(119, 4, a, b), a + 1 == b || b + 1 == a);
      }
    }

    x = sentence(25, "of one (b is a): 2 a is the first one, 3 the last one.");
    for (int a = 0; a < 5; a++) {
      for (int b = 0; b < 5; b++) {
        due(x.holds(0, 2, a, b), a == 0 && b == 0);
        due(x.holds(0, 3, a, b), a == 4 && b == 4);
        due(x.holds(119, 2, a, b), a == 4 && b == 4);
        due(x.holds(119, 3, a, b), a == 0 && b == 0);
      }
    }

    x = sentence(25, "Whether a SAYING HOLDS. False for others too.");
    due(x.holds(0, 0, 0, 1), true);
    due(x.holds(119, 0, 1, 0), true);
    for (int wrong : new int[] {-1, 120, LOW, BIG}) {
      due(x.holds(wrong, 0, 0, 1), false);
      due(x.holds(wrong, 0, 1, 0), false);
      due(x.holds(wrong, 4, 0, 1), false);
      due(x.holds(wrong, 2, 0, 0), false);
      due(x.holds(wrong, 3, 4, 4), false);
    }
    for (int wrong : new int[] {-1, 5, LOW, BIG}) {
      due(x.holds(0, wrong, 0, 1), false);
      due(x.holds(0, wrong, 0, 0), false);
    }
    for (int wrong : new int[] {-1, 5, LOW, BIG}) {
      for (int kind = 0; kind < 5; kind++) {
        due(x.holds(0, kind, wrong, 0), false);
        due(x.holds(0, kind, 0, wrong), false);
        due(x.holds(0, kind, 4, wrong), false);
        due(x.holds(0, kind, wrong, 4), false);
        due(x.holds(0, kind, wrong, wrong), false);
      }
    }
  }

  private static void saying() {
    PerfectFerried x = sentence(26, "COULD BE by what was SAID (8 SAYINGS at most; told)");
    for (int i = 1; i <= 8; i++) {
      due(x.say(0, 0, 1), i);
      due(x.about(6), i);
    }
    due(x.say(0, 1, 2), -2);
    due(x.about(6), 8);
    due(x.could(-1), 60);

    x = sentence(26, "SAID: how many there are (kind NONE: none any more).");
    due(x.say(-1, 0, 0), 0);
    for (int i = 1; i <= 8; i++) due(x.say(2, 3, 3), i);
    due(x.could(-1), 24);
    due(x.say(-1, LOW, BIG), 0);
    due(x.about(6), 0);
    due(x.could(-1), 120);
    due(x.say(3, 3, 3), 1);

    x = sentence(26, "-2 for others, or if there are 8.");
    for (int full = 0; full < 2; full++) {
      for (int wrong : new int[] {-2, 5, LOW, BIG}) {
        due(x.say(wrong, 0, 1), -2);
        due(x.say(wrong, 0, 0), -2);
      }
      for (int wrong : new int[] {-1, 5, LOW, BIG}) {
        for (int kind = 0; kind < 5; kind++) {
          due(x.say(kind, wrong, 0), -2);
          due(x.say(kind, 0, wrong), -2);
          due(x.say(kind, wrong, wrong), -2);
        }
      }
      due(x.about(6), full * 8);
      for (int i = 1; i <= 8 && full == 0; i++) due(x.say(4, 0, 4), i);
    }
    due(x.say(4, 0, 4), -2);

    x = sentence(26, "SAYINGS by KIND of two unlike DOINGS a, b");
    for (int kind : new int[] {0, 1, 4}) {
      for (int a = 0; a < 5; a++) due(x.say(kind, a, a), -2);
      due(x.say(kind, 0, 4) + x.say(kind, 4, 0), 3);
      x.say(-1, 0, 0);
    }
    for (int kind : new int[] {2, 3}) {
      for (int a = 0; a < 5; a++) due(x.say(kind, a, (a + 1) % 5), -2);
      due(x.say(kind, 0, 0) + x.say(kind, 4, 4), 3);
      x.say(-1, 0, 0);
    }
  }

  private static void could() {
    PerfectFerried x = sentence(27, "ORDERS for which all of it HOLDS: how many, the i-th, from the lowest on.");
    due(x.could(-1), 120);
    due(x.could(0), 0);
    due(x.could(119), 119);
    x.say(2, 4, 4);
    due(x.could(-1), 24);
    due(x.could(0), 96);
    due(x.could(23), 119);
    due(x.could(24), -2);
    x.say(3, 0, 0);
    x.say(1, 2, 1);
    due(x.could(-1), 2);
    due(x.could(0), x.number(4, 2, 1, 3, 0));
    due(x.could(1), x.number(4, 3, 2, 1, 0));
    due(x.could(2), -2);
    x.say(0, 1, 3);
    due(x.could(-1), 1);
    due(x.could(1), -2);
    x.say(0, 3, 1);
    due(x.could(-1), 0);
    due(x.could(0), -2);

    x = sentence(27, "-2 if there is none such.");
    for (int wrong : new int[] {-2, 120, 121, LOW, BIG}) due(x.could(wrong), -2);
    due(x.could(119), 119);
    x.say(2, 0, 0);
    x.say(3, 0, 0);
    due(x.could(-1), 0);
    for (int wrong : new int[] {-2, 0, 1, LOW, BIG}) due(x.could(wrong), -2);
  }

  private static void likely() {
    PerfectFerried x = sentence(28, "how likely a DOING is ahead of another one, each of these ORDERS being as likely as each, in lowest terms.");
    due(x.likely(0, 4, false), 1);
    due(x.likely(0, 4, true), 2);
    due(x.likely(4, 0, false), 1);
    due(x.likely(4, 0, true), 2);
    // 0 first: of 24 all, and none
    x.say(2, 0, 0);
    due(x.likely(0, 4, false), 1);
    due(x.likely(0, 4, true), 1);
    due(x.likely(4, 0, false), 0);
    due(x.likely(4, 0, true), 1);
    // 1 ahead of 2 and of 3: of 8, 1 is ahead of 4 in 6
    x.say(0, 1, 2);
    x.say(0, 1, 3);
    due(x.could(-1), 8);
    due(x.likely(1, 4, false), 3);
    due(x.likely(1, 4, true), 4);
    due(x.likely(4, 1, false), 1);
    due(x.likely(4, 1, true), 4);

    x = sentence(28, "NONE: none could be, and for others.");
    for (int wrong : new int[] {-1, 5, LOW, BIG}) {
      due(x.likely(wrong, 0, false), -1);
      due(x.likely(0, wrong, true), -1);
      due(x.likely(4, wrong, false), -1);
      due(x.likely(wrong, 4, true), -1);
    }
    for (int a = 0; a < 5; a++) {
      due(x.likely(a, a, false), -1);
      due(x.likely(a, a, true), -1);
    }
    x.say(1, 0, 1);
    x.say(1, 1, 2);
    x.say(1, 2, 3);
    x.say(1, 3, 4);
    due(x.could(-1), 1);
    due(x.likely(0, 4, false), 1);
    due(x.likely(0, 4, true), 1);
    x.say(0, 4, 0);
    due(x.likely(0, 4, false), -1);
    due(x.likely(0, 4, true), -1);
  }

  private static void sure() {
    PerfectFerried x = sentence(29, "SURE: DOINGS ahead of it in all that COULD BE (bits). NONE: none could be, and for others.");
    for (int a = 0; a < 5; a++) due(x.sure(a), 0);
    for (int wrong : new int[] {-1, 5, LOW, BIG}) due(x.sure(wrong), -1);
    x.say(3, 4, 4);
    due(x.sure(4), 15);
    due(x.sure(3), 0);
    x.say(1, 0, 1);
    x.say(1, 1, 2);
    x.say(1, 2, 3);
    // one is left: all that is ahead
    due(x.could(-1), 1);
    for (int a = 0; a < 5; a++) due(x.sure(a), (1 << a) - 1);
    due(x.sure(5), -1);
    x.say(0, 3, 0);
    due(x.could(-1), 0);
    for (int a = 0; a < 5; a++) due(x.sure(a), -1);
  }

  private static void asking() {
    PerfectFerried x = sentence(30, "so that the most ORDERS that can be left then are fewest; of like ones the lowest a, then b.");
    due(x.ask(), 1);
    // 0 ahead of 1: of 60, 0 is ahead of 2 in 40; 2 ahead of 3 in 30
    x.say(0, 0, 1);
    due(x.ask(), 23);
    x.say(0, 2, 3);
    // of 30: 0 and 2 are as good as 1 and 3
    due(x.ask(), 2);
    x.say(-1, 0, 0);
    x.say(2, 0, 0);
    due(x.ask(), 12);
    x.say(3, 1, 1);
    due(x.ask(), 23);
    x.say(2, 0, 0);
    x.say(1, 2, 3);
    due(x.ask(), 24);

    x = sentence(30, "whether a is ahead of b (a below b)");
    x.say(2, 4, 4);
    x.say(1, 4, 3);
    x.say(1, 3, 2);
    // 1 and 0 alone are open: asked as 0 and 1
    due(x.could(-1), 2);
    due(x.ask(), 1);
    x.say(-1, 0, 0);
    x.say(2, 0, 0);
    x.say(1, 0, 1);
    x.say(1, 1, 2);
    due(x.ask(), 34);

    x = sentence(30, "NONE: none, or one could be.");
    x.say(1, 0, 1);
    x.say(1, 1, 2);
    x.say(2, 0, 0);
    due(x.could(-1), 2);
    due(x.ask(), 34);
    x.say(0, 4, 3);
    due(x.could(-1), 1);
    due(x.ask(), -1);
    x.say(0, 3, 4);
    due(x.could(-1), 0);
    due(x.ask(), -1);
  }

  private static void least() {
    PerfectFerried x = sentence(31, "each costs the LENGTH of the shortest of these FORMS of its KIND: the least LENGTH together; the fewest SAYINGS by which it is so much; no way.");
    x.form(0, 9);
    x.form(0, 1);
    x.form(1, 9);
    x.form(4, 9);
    x.form(2, 9);
    x.form(3, 9);
    x.story(0);
    x.story(119);
    for (int story = 0; story < 2; story++) {
      due(x.least(1, story, false), 36);
      due(x.least(1, story, true), 4);
      due(x.least(2, story, false), 4);
      due(x.least(3, story, false), 4);
      due(x.least(4, story, false), 36);
      // side by side alone: from both ends
      due(x.least(8, story, false), -1);
      due(x.least(8, story, true), -1);
      due(x.least(8 + 16, story, false), 36);
      due(x.least(8 + 32, story, true), 4);
      due(x.least(16, story, false), -1);
      due(x.least(16 + 32, story, true), -1);
      due(x.least(8 + 2, story, false), 4);
      due(x.least(0, story, false), -1);
      due(x.least(0, story, true), -1);
      due(x.least(63, story, false), 4);
      due(x.least(63, story, true), 4);
    }
    // as long by 4 and by 5 SAYINGS: the fewest; one shorter, five are least
    PerfectFerried y = new PerfectFerried();
    y.form(0, 8);
    y.form(4, 6);
    y.form(4, 5);
    y.story(5);
    due(y.least(3, 0, false), 32);
    due(y.least(3, 0, true), 4);
    due(y.least(5, 0, false), 28);
    due(y.least(5, 0, true), 5);

    x = sentence(31, "a STORY is told by SAYINGS of KINDS of some FORMS (bits) that HOLD for it, so that no other ORDER has all of them");
    x.form(2, 1);
    x.form(3, 1);
    x.form(4, 1);
    x.story(60);
    // 24, 24 and 6 ORDERS are left, then 2; three side by side and an end leave one
    due(x.least(1, 0, true), -1);
    due(x.least(2, 0, true), -1);
    due(x.least(3, 0, true), -1);
    due(x.least(4, 0, true), -1);
    due(x.least(5, 0, true), 4);
    due(x.least(6, 0, true), 4);
    due(x.least(7, 0, true), 4);

    x = sentence(31, "NONE: no way, and for others (FORMS not told, bits).");
    due(x.least(0, 0, false), -1);
    x.story(0);
    due(x.least(1, 0, false), -1);
    for (int forms = 1; forms <= 8; forms++) {
      x.form(0, 1);
      due(x.least((1 << forms) - 1, 0, false), 4);
      due(x.least(1 << forms, 0, false), -1);
      due(x.least(1 << forms | 1, 0, true), -1);
    }
    for (int wrong : new int[] {-1, 256, LOW, BIG, LOW + 1}) {
      due(x.least(wrong, 0, false), -1);
      due(x.least(wrong, 0, true), -1);
    }
    for (int wrong : new int[] {-1, 1, 4, LOW, BIG}) {
      due(x.least(1, wrong, false), -1);
      due(x.least(1, wrong, true), -1);
    }
    for (int i = 0; i < 3; i++) x.story(i);
    due(x.least(255, 3, true), 4);
    due(x.least(255, 4, true), -1);
  }

  private static void blurred() {
    PerfectFerried x = sentence(32, "for how many ORDERS (that of the STORY, too) all SAYINGS HOLD that FORMS have and that HOLD for it.");
    for (int kind = 0; kind < 5; kind++) x.form(kind, 9);
    x.story(0);
    x.story(119);
    x.story(60);
    for (int story = 0; story < 3; story++) {
      due(x.blurred(0, story), 120);
      due(x.blurred(4, story), 24);
      due(x.blurred(8, story), 24);
      due(x.blurred(12, story), 6);
      due(x.blurred(16, story), 2);
      due(x.blurred(20, story), 1);
      due(x.blurred(24, story), 1);
      due(x.blurred(1, story), 1);
      due(x.blurred(2, story), 1);
      due(x.blurred(31, story), 1);
    }

    x = sentence(32, "BLURRED: how many ORDERS. NONE for others.");
    due(x.blurred(0, 0), -1);
    x.story(0);
    due(x.blurred(0, 0), 120);
    due(x.blurred(1, 0), -1);
    for (int i = 0; i < 8; i++) x.form(2, 1);
    due(x.blurred(255, 0), 24);
    for (int wrong : new int[] {-1, 256, 257, LOW, BIG}) due(x.blurred(wrong, 0), -1);
    for (int wrong : new int[] {-1, 1, 4, LOW, BIG}) due(x.blurred(0, wrong), -1);
    for (int i = 0; i < 3; i++) x.story(i);
    due(x.blurred(128, 3), 24);
    due(x.blurred(128, 4), -1);
  }

  private static void toLearn() {
    PerfectFerried x = sentence(33, "the fewest FORMS (bits) that it doesn't know, by which it could tell all STORIES besides what it knows");
    x.form(4, 1);
    x.form(2, 1);
    x.form(0, 9);
    x.person(0, 0);
    x.person(0, 2);
    x.person(0, 4);
    // without STORIES none is needed
    due(x.cover(0), 0);
    x.story(0);
    // one of LENGTH 9 are fewer than two of LENGTH 1
    due(x.cover(0), 4);
    due(x.cover(1), 1);
    due(x.cover(2), 0);

    x = sentence(33, "of like ones the least LENGTH together, then the lowest set; no way.");
    x.form(2, 3);
    x.form(4, 3);
    x.form(3, 3);
    x.form(4, 3);
    x.form(2, 3);
    x.story(0);
    x.person(0, 0);
    // 0 1, 1 2, 0 3, 2 3, 1 4, 3 4: all of LENGTH 6
    due(x.cover(0), 3);
    x.form(3, 2);
    due(x.cover(0), 2 + 32);
    x.form(4, 2);
    due(x.cover(0), 32 + 64);
    x.form(0, 9);
    due(x.cover(0), 128);

    x = sentence(33, "TO LEARN: FORMS (bits). NONE: no way, and for others.");
    due(x.cover(0), -1);
    x.person(0, 0);
    due(x.cover(0), 0);
    x.story(0);
    due(x.cover(0), -1);
    x.form(2, 1);
    x.form(3, 1);
    due(x.cover(0), -1);
    x.form(1, 9);
    due(x.cover(0), 4);
    for (int wrong : new int[] {-1, 1, 6, LOW, BIG}) due(x.cover(wrong), -1);
    fill(x);
    due(x.cover(5), 0);
    due(x.cover(6), -1);
    // nobody need know what is learned
    PerfectFerried y = new PerfectFerried();
    y.form(4, 1);
    y.form(3, 9);
    y.person(0, 1);
    y.story(7);
    due(y.cover(0), 2);
  }

  private static void toKeep() {
    PerfectFerried x = sentence(34, "FORMS (bits) that somebody knows, without which (nobody knowing it) some STORY that somebody can tell could be told by nobody.");
    due(x.keep(), 0);
    for (int i = 0; i < 7; i++) x.form(2, 1);
    x.form(0, 1);
    x.person(0, 255);
    due(x.keep(), 0);
    x.story(0);
    due(x.keep(), 128);
    x.person(0, 128);
    due(x.keep(), 128);
    x.person(0, 127);
    due(x.keep(), 128);
    x.forget(0, 7);
    due(x.keep(), 128);
    x.forget(1, 7);
    due(x.keep(), 0);
    // two are needed, and another can do without one of them
    x = new PerfectFerried();
    x.form(4, 1);
    x.form(2, 1);
    x.form(3, 1);
    x.story(0);
    x.person(0, 3);
    due(x.keep(), 3);
    x.person(0, 5);
    due(x.keep(), 1);
    x.form(1, 1);
    due(x.keep(), 1);
    x.person(0, 8);
    due(x.keep(), 0);
    x.forget(0, 0);
    x.forget(1, 0);
    due(x.keep(), 8);
  }

  private static void both() {
    PerfectFerried x = sentence(35, "how long a STORY is at least by FORMS that either of two PEOPLE knows.");
    x.form(4, 1);
    x.form(2, 2);
    x.form(0, 9);
    x.person(0, 1);
    x.person(0, 2);
    x.person(0, 4);
    x.story(0);
    due(x.both(0, 1, 0), 5);
    due(x.both(1, 0, 0), 5);
    due(x.both(0, 2, 0), 13);
    due(x.both(2, 2, 0), 36);
    due(x.both(0, 0, 0), -1);

    x = sentence(35, "BOTH. NONE: no way, and for others.");
    due(x.both(0, 0, 0), -1);
    x.form(4, 1);
    x.form(2, 1);
    x.form(0, 1);
    x.person(0, 1);
    x.person(0, 1);
    due(x.both(0, 1, 0), -1);
    x.story(0);
    due(x.both(0, 1, 0), -1);
    x.person(0, 7);
    due(x.both(0, 2, 0), 4);
    for (int wrong : new int[] {-1, 3, 6, LOW, BIG}) {
      due(x.both(wrong, 2, 0), -1);
      due(x.both(2, wrong, 0), -1);
    }
    for (int wrong : new int[] {-1, 1, 4, LOW, BIG}) due(x.both(0, 2, wrong), -1);
    fill(x);
    due(x.both(5, 5, 3) > 0, true);
    due(x.both(5, 6, 3), -1);
    due(x.both(6, 5, 3), -1);
    due(x.both(5, 5, 4), -1);
  }

  private static void apart() {
    PerfectFerried x = sentence(36, "how many pairs of DOINGS are in unlike order in two ORDERS.");
    due(x.apart(0, 0), 0);
    due(x.apart(119, 119), 0);
    due(x.apart(0, 119), 10);
    due(x.apart(119, 0), 10);
    due(x.apart(0, 1), 1);
    due(x.apart(0, 118), 9);
    // 1 2 3 4 0, and 4 0 1 2 3
    due(x.apart(0, x.number(1, 2, 3, 4, 0)), 4);
    due(x.apart(0, x.number(4, 0, 1, 2, 3)), 4);
    due(x.apart(x.number(1, 2, 3, 4, 0), x.number(4, 0, 1, 2, 3)), 6);

    x = sentence(36, "APART. NONE for others.");
    for (int wrong : new int[] {-1, 120, LOW, BIG}) {
      due(x.apart(wrong, 0), -1);
      due(x.apart(0, wrong), -1);
      due(x.apart(wrong, wrong), -1);
      due(x.apart(119, wrong), -1);
    }
  }

  private static void middle() {
    PerfectFerried x = sentence(37, "the ORDER that is least APART from all STORIES together; of like ones the lowest.");
    x.story(119);
    due(x.middle(), 119);
    x.story(0);
    // each ORDER is 10 from both together
    due(x.middle(), 0);
    x.story(119);
    due(x.middle(), 119);
    x.story(0);
    due(x.middle(), 0);
    // 0 1 2 4 3 and 0 1 3 2 4: both, what is between them, are 2 apart
    PerfectFerried y = new PerfectFerried();
    y.story(2);
    y.story(1);
    due(y.middle(), 0);

    x = sentence(37, "THE MIDDLE: the ORDER. NONE without STORIES.");
    due(x.middle(), -1);
    x.story(0);
    due(x.middle(), 0);
    x.back();
    due(x.middle(), -1);
  }

  private static void lost() {
    PerfectFerried x = sentence(38, "how likely a FORM is known by nobody behind n YEARS, were fades as now in all of them, in lowest terms.");
    x.form(0, 1);
    x.form(0, 1);
    x.person(39, 1);
    // nobody knows it: sure; 1 of 10 now, though AGE will be 40; then nobody can forget it
    due(x.lost(1, 1, false), 1);
    due(x.lost(1, 1, true), 1);
    due(x.lost(0, 1, false), 1);
    due(x.lost(0, 1, true), 10);
    due(x.lost(0, 3, false), 271);
    due(x.lost(0, 3, true), 1000);
    rule(x, "fades 0;");
    due(x.lost(0, 3, false), 0);
    due(x.lost(0, 3, true), 1);
    rule(x, "fades 10;");
    due(x.lost(0, 1, false), 1);
    due(x.lost(0, 1, true), 1);
    rule(x, "fades 5;");
    due(x.lost(0, 3, false), 7);
    due(x.lost(0, 3, true), 8);
    // six that know it, for three YEARS: the largest of all
    for (int i = 0; i < 5; i++) x.person(0, 1);
    rule(x, "fades 9;");
    due(x.lost(0, 3, true), 1000000000000000000L);
    due(x.lost(0, 3, false), 999L * 999 * 999 * 999 * 999 * 999);
    x.by(2);
    due(x.lost(0, 3, true), 262144);
    due(x.lost(0, 3, false), 117649);
    // one that never forgets it is enough
    x.by(-1);
    due(x.lost(0, 3, false), 0);
    due(x.lost(0, 3, true), 1);

    x = sentence(38, "NONE for others (n 1 .. 3).");
    due(x.lost(0, 1, false), -1);
    x.form(0, 1);
    x.person(20, 1);
    due(x.lost(0, 1, true), 10);
    due(x.lost(0, 3, true), 1000);
    for (int wrong : new int[] {-1, 0, 4, LOW, BIG}) {
      due(x.lost(0, wrong, false), -1);
      due(x.lost(0, wrong, true), -1);
    }
    for (int wrong : new int[] {-1, 1, 8, LOW, BIG}) {
      due(x.lost(wrong, 1, false), -1);
      due(x.lost(wrong, 1, true), -1);
    }
    fill(x);
    due(x.lost(7, 1, true), 1);
    due(x.lost(8, 1, true), -1);
  }

  private static void heirs() {
    PerfectFerried x = sentence(39, "PEOPLE (bits) that know it not, whom somebody could teach it now.");
    x.form(0, 9);
    x.form(0, 2);
    for (int i = 0; i < 6; i++) x.person(0, 0);
    due(x.heirs(0), 0);
    x.back();
    x.form(0, 9);
    x.form(0, 2);
    x.form(0, 1);
    for (int i = 0; i < 6; i++) x.person(0, i == 0 ? 7 : 0);
    due(x.heirs(0), 62);
    x.teach(0, 0, 5);
    due(x.heirs(0), 30);
    x.forget(5, 0);
    // BREATH 11, 9, 8
    x.teach(1, 0, 5);
    due(x.heirs(0), 62);
    x.teach(2, 0, 5);
    due(x.of(0, 2), 8);
    due(x.heirs(0), 0);
    due(x.heirs(1), 30);
    x.undo();
    due(x.heirs(0), 62);
    rule(x, "learns who - 2;");
    due(x.heirs(0), 56);
    rule(x, "learns 0;");
    due(x.heirs(0), 0);
    // all know it, all but the last, all but the first
    PerfectFerried y = new PerfectFerried();
    fill(y);
    due(y.heirs(0), 0);
    due(y.heirs(7), 0);
    y.forget(5, 7);
    due(y.heirs(7), 32);
    y.forget(0, 7);
    due(y.heirs(7), 33);

    x = sentence(39, "HEIRS (bits). NONE for others.");
    due(x.heirs(0), -1);
    x.form(0, 1);
    due(x.heirs(0), 0);
    for (int wrong : new int[] {-1, 1, 8, 32, LOW, BIG}) due(x.heirs(wrong), -1);
    fill(x);
    due(x.heirs(7), 0);
    due(x.heirs(8), -1);
  }

  private static void seen() {
    PerfectFerried x = sentence(40, "SEEN, 8 at most: a PERSON, fades 0 .. 10 of FORM 0");
    x.form(0, 1);
    x.person(0, 0);
    due(x.seen(0, -1), -2);
    due(x.seen(0, 11), -2);
    due(x.seen(0, LOW), -2);
    due(x.seen(0, BIG), -2);
    due(x.about(7), 0);
    due(x.seen(0, 0), 1);
    due(x.seen(0, 10), 2);
    for (int i = 3; i <= 8; i++) due(x.seen(0, i), i);
    due(x.seen(0, 0), -2);
    due(x.about(7), 8);

    x = sentence(40, "SEEN: how many there are (person NONE: none any more).");
    due(x.seen(-1, 0), 0);
    x.form(0, 1);
    x.person(0, 0);
    for (int i = 1; i <= 8; i++) due(x.seen(0, 5), i);
    due(x.seen(-1, 11), 0);
    due(x.about(7), 0);
    due(x.seen(0, 5), 1);

    x = sentence(40, "-2 for others, or if there are 8.");
    due(x.seen(0, 0), -2);
    x.form(0, 1);
    x.person(0, 0);
    for (int wrong : new int[] {-2, 1, 6, LOW, BIG}) due(x.seen(wrong, 0), -2);
    due(x.about(7), 0);
    for (int i = 1; i < 6; i++) x.person(0, 0);
    due(x.seen(6, 0), -2);
    for (int i = 1; i <= 8; i++) due(x.seen(5, 10), i);
    due(x.seen(5, 10), -2);
    due(x.seen(6, 0), -2);
    due(x.seen(5, 11), -2);
    due(x.about(7), 8);
  }

  private static void whose() {
    PerfectFerried x = sentence(41, "TEXTS (bits) by whose fades all are so (as now).");
    due(x.whose(), 0);
    x.form(0, 1);
    x.form(4, 1);
    x.person(19, 0);
    x.seen(0, 0);
    due(x.whose(), 0);
    x.seen(-1, 0);
    // nothing is seen: all TEXTS
    read(x, "fades -1;");
    due(x.whose(), 1);
    read(x, "fades 11;");
    read(x, "fades form * 10;");
    read(x, "learns 10;");
    due(x.whose(), 15);
    // 0 at least, FORM 0, AGE by 20: all but the second
    x.seen(0, 0);
    due(x.whose(), 13);
    // at AGE 20 it is 1
    x.year(1);
    due(x.whose(), 5);
    x.undo();
    due(x.whose(), 13);
    x.seen(0, 10);
    due(x.whose(), 0);
    x.seen(-1, 0);
    x.seen(0, 10);
    due(x.whose(), 2);
    // who rules doesn't matter
    x.by(0);
    due(x.whose(), 2);
    // one of eight that isn't so
    x.seen(-1, 0);
    for (int i = 0; i < 7; i++) x.seen(0, 10);
    due(x.whose(), 2);
    x.seen(0, 9);
    due(x.about(7), 8);
    due(x.whose(), 0);
  }

  private static void richest() {
    PerfectFerried x = sentence(42, "the PERSON that knows most FORMS (one at least); of like ones the lowest; none.");
    due(x.richest(), -1);
    for (int i = 0; i < 8; i++) x.form(0, 1);
    due(x.richest(), -1);
    x.person(0, 0);
    due(x.richest(), -1);
    x.person(0, 128);
    due(x.richest(), 1);
    x.person(0, 1);
    due(x.richest(), 1);
    x.person(0, 3);
    due(x.richest(), 3);
    x.person(0, 192);
    due(x.richest(), 3);
    x.person(0, 255);
    due(x.richest(), 5);

    x = sentence(42, "RICHEST. NONE: none.");
    due(x.richest(), -1);
    x.form(0, 1);
    x.person(0, 1);
    due(x.richest(), 0);
    x.forget(0, 0);
    due(x.richest(), -1);
  }

  private static void rarest() {
    PerfectFerried x = sentence(43, "the FORM that fewest know, but somebody; of like ones the lowest; none.");
    due(x.rarest(), -1);
    for (int i = 0; i < 8; i++) x.form(0, 1);
    due(x.rarest(), -1);
    x.person(0, 0);
    due(x.rarest(), -1);
    x.person(0, 128);
    due(x.rarest(), 7);
    x.person(0, 128 + 2 + 4);
    due(x.rarest(), 1);
    x.person(0, 2 + 4);
    due(x.rarest(), 1);
    x.forget(3, 2);
    due(x.rarest(), 2);
    x.forget(2, 2);
    due(x.rarest(), 1);

    x = sentence(43, "RAREST. NONE: none.");
    due(x.rarest(), -1);
    x.form(0, 1);
    for (int i = 0; i < 6; i++) x.person(0, 1);
    due(x.rarest(), 0);
    for (int i = 0; i < 6; i++) x.forget(i, 0);
    due(x.rarest(), -1);
  }

  private static void silent() {
    PerfectFerried x = sentence(44, "SILENT: PEOPLE (bits) that can tell no STORY.");
    due(x.silent(), 0);
    x.story(0);
    due(x.silent(), 0);
    x.form(0, 9);
    x.form(4, 1);
    for (int i = 0; i < 6; i++) x.person(0, i == 5 ? 1 : i % 2 * 2);
    // the last one can, though its BREATH is too short now
    due(x.silent(), 31);
    due(x.tell(5, 0), -1);
    x.forget(5, 0);
    due(x.silent(), 63);
    // without STORIES nobody can tell one
    x.back();
    x.form(0, 1);
    x.person(0, 1);
    due(x.silent(), 1);
    x.story(0);
    due(x.silent(), 0);
  }

  private static void ledger() {
    PerfectFerried x = sentence(45, "BY THE BOOK: how long all tellings of a PERSON were together (NONE: all).");
    due(x.ledger(-1), 0);
    x.form(0, 1);
    x.form(0, 9);
    x.person(0, 1);
    x.person(0, 1);
    x.person(0, 2);
    x.story(0);
    due(x.ledger(0), 0);
    rule(x, "fades 0;");
    x.year(2);
    due(x.tell(2, 0), 36);
    due(x.tell(1, 0), 4);
    due(x.ledger(2), 36);
    due(x.ledger(1), 4);
    due(x.ledger(0), 0);
    due(x.ledger(-1), 40);
    for (int i = 0; i < 28; i++) {
      x.year(1);
      x.tell(0, 0);
    }
    due(x.book(-1, 0), 30);
    due(x.ledger(-1), 40 + 28 * 4);
    // the 31st puts the eldest out of the BOOK
    x.tell(0, 0);
    due(x.ledger(2), 0);
    due(x.ledger(1), 4);
    due(x.ledger(0), 29 * 4);
    due(x.ledger(-1), 30 * 4);
    x.undo();
    due(x.ledger(2), 36);

    x = sentence(45, "BY THE BOOK. -2 for others.");
    due(x.ledger(0), -2);
    x.person(0, 0);
    due(x.ledger(0), 0);
    for (int wrong : new int[] {-2, 1, 6, LOW, BIG}) due(x.ledger(wrong), -2);
    fill(x);
    due(x.ledger(5), 0);
    due(x.ledger(6), -2);
  }

  private static void image() {
    PerfectFerried x = sentence(46, "THE IMAGE is as all is now: YEAR.");
    due(x.image(), 0);
    x.year(60);
    due(x.image(), 60);
    x.year(1);
    due(x.back(), 60);
    passTo(x, 9999);
    due(x.image(), 9999);
    x.undo();
    due(x.is(0), 9998);
    due(x.back(), 9999);
    due(x.about(5), 30);

    x = sentence(46, "AN IMAGE: all as it is, but the tape and the latest FAULT.");
    fill(x);
    x.by(3);
    for (int i = 0; i < 6; i++) x.tell(i, i % 4);
    x.year(28);
    String full = state(x);
    due(x.image(), 28);
    put(x, "year 1;");
    due(x.ages(9999, 40) > 28, true);
    x.say(-1, 0, 0);
    x.seen(-1, 0);
    x.by(-1);
    due(x.back(), 28);
    due(state(x), full);
    due(x.about(8), 7);
    for (int i = 29; i >= 0; i--) due(x.undo(), i);
    due(x.undo(), -1);
  }

  private static void back() {
    PerfectFerried x = sentence(47, "BACK to THE IMAGE (it stays): YEAR.");
    x.year(5);
    due(x.back(), 0);
    due(x.back(), 0);
    due(x.is(0), 0);
    due(x.undo(), -1);
    x.year(5);
    x.image();
    for (int i = 0; i < 3; i++) {
      x.year(7);
      due(x.back(), 5);
      due(x.about(5), 5);
      due(x.undo(), 4);
      due(x.is(0), 4);
    }

    // the STEPS of the image, when others stood in their place: 45 of them, round and round
    x = new PerfectFerried();
    x.year(45);
    x.image();
    for (int i = 0; i < 20; i++) x.undo();
    x.ages(0, 40);
    x.year(60);
    due(x.back(), 45);
    for (int i = 29; i >= 0; i--) {
      due(x.undo(), i);
      due(x.is(0), 15 + i);
    }
    due(x.undo(), -1);

    x = sentence(47, "BACK: all is so again.");
    String empty = state(x);
    x.form(0, 1);
    x.person(20, 1);
    x.story(0);
    rule(x, "fades 5;learns 5;");
    x.say(0, 0, 1);
    x.seen(0, 5);
    x.tell(0, 0);
    String some = state(x);
    x.image();
    fill(x);
    x.year(40);
    x.back();
    due(state(x), some);
    // there is room for as many as ahead of it
    due(x.form(0, 9), 1);
    due(x.person(0, 3), 1);
    due(x.story(119), 1);
    due(read(x, "fades 6;"), 1);
    due(x.say(0, 0, 2), 2);
    due(x.seen(0, 6), 2);
    due(x.undo(), 0);
    due(x.undo(), -1);
    x.back();
    due(state(x), some);
    due(x.undo(), 0);
    due(x.of(0, 2), 20);
    // what was SAID and SEEN, when other things stood in its place
    x.back();
    x.say(-1, 0, 0);
    x.seen(-1, 0);
    x.say(3, 4, 4);
    x.seen(0, 6);
    due(x.could(-1), 24);
    due(x.whose(), 0);
    x.back();
    due(x.could(-1), 60);
    due(x.whose(), 1);
    PerfectFerried y = new PerfectFerried();
    fill(y);
    y.year(40);
    y.back();
    due(state(y), empty);
    due(y.undo(), -1);
    due(y.form(4, 9), 0);
    due(y.person(0, 2), -1);
    due(y.person(0, 1), 0);
  }

  private static void about() {
    PerfectFerried x = sentence(48, "0 FORMS, 1 PEOPLE, 2 STORIES, 3 TEXTS, 4 THE TEXT (NONE), 5 STEPS that can be taken back, 6 SAID, 7 SEEN, 8 bytes of the tape.");
    for (int what = 0; what <= 8; what++) due(x.about(what), what == 4 ? -1 : 0);
    fill(x);
    x.by(3);
    x.year(60);
    for (int i = 0; i < 15; i++) x.feed(0, 0, 0, 0, 0);
    int[] most = {8, 6, 4, 4, 3, 30, 8, 8, 300};
    for (int what = 0; what <= 8; what++) due(x.about(what), most[what]);

    x = sentence(48, "-2 for others.");
    for (int wrong : new int[] {-1, 9, LOW, BIG}) due(x.about(wrong), -2);
    due(x.about(8), 0);
    fill(x);
    for (int wrong : new int[] {-1, 9, LOW, BIG}) due(x.about(wrong), -2);
  }

  private static void nothingIsChanged() {
    PerfectFerried x = sentence(22, "All that follows changes nothing but what is told.");
    fill(x);
    x.by(2);
    x.tell(0, 0);
    x.year(3);
    put(x, "year 1;");
    String before = state(x);
    for (int i = -1; i < 2; i++) {
      x.foretold(60, i, 0);
      x.order(i, i);
      x.number(i, 1, 2, 3, 4);
      x.holds(i, 0, 0, 1);
      x.could(i);
      x.likely(i, 1, false);
      x.sure(i);
      x.ask();
      x.least(i, 0, false);
      x.blurred(i, 0);
      x.cover(i);
      x.keep();
      x.both(i, 1, 0);
      x.apart(i, 1);
      x.middle();
      x.lost(i, 3, true);
      x.heirs(i);
      x.whose();
      x.richest();
      x.rarest();
      x.silent();
      x.ledger(i);
    }
    due(state(x), before);
    due(x.about(8), 7);
    // SAID and SEEN are told, and nothing else is another one by them
    x.say(-1, 0, 0);
    x.seen(-1, 0);
    for (int i = 0; i < 8; i++) {
      x.say(0, 0, 1 + i % 4);
      x.seen(0, i);
    }
    due(state(x), before);
  }
}
