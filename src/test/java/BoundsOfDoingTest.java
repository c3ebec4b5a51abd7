/** The bounds that the document names, sentence by sentence: what is done and what is so (promises 10 to 22). */
public final class BoundsOfDoingTest extends Checks {
  public static void main(String[] args) {
    teaching();
    forgetting();
    telling();
    years();
    draws();
    playing();
    playedYears();
    ages();
    drawsOfAges();
    undoing();
    undoneThings();
    ofPeople();
    ofForms();
    lawsAsked();
    lawsWeighed();
    lawsAtTheirEnds();
    isNow();
    book();
    foretelling();
    finishBounds(10, 22);
  }

  /** PERSON 0 knows FORMS 0 (LENGTH 9) and 1 (LENGTH 2), PERSON 1 none. */
  private static PerfectFerried two(PerfectFerried x) {
    x.form(0, 9);
    x.form(0, 2);
    x.form(0, 1);
    x.person(0, 7);
    x.person(0, 0);
    return x;
  }

  private static void teaching() {
    PerfectFerried x = two(sentence(10, "a FORM by a PERSON that knows it to one that doesn't"));
    due(x.teach(0, 1, 0), false);
    due(x.teach(0, 0, 0), false);
    due(x.teach(0, 1, 1), false);
    due(x.teach(0, 0, 1), true);
    due(x.teach(0, 0, 1), false);
    due(x.teach(0, 1, 0), false);
    due(x.of(1, 1), 1);

    x = two(sentence(10, "for which learns says more than 0 (of that FORM)"));
    String before = state(x);
    rule(x, "learns 0;");
    due(x.teach(0, 0, 1), false);
    rule(x, "learns -1;");
    due(x.teach(0, 0, 1), false);
    due(x.about(5), 0);
    rule(x, "learns 1;");
    due(x.teach(0, 0, 1), true);
    x.undo();
    rule(x, "learns form;");
    due(x.teach(0, 0, 1), false);
    due(x.teach(1, 0, 1), true);
    x.undo();
    // learns is asked of the one that would learn
    PerfectFerried y = two(new PerfectFerried());
    y.person(0, 0);
    rule(y, "learns who - 1;");
    due(y.teach(1, 0, 1), false);
    due(y.teach(1, 0, 2), true);
    rule(y, "learns 1 - who;");
    due(y.teach(1, 2, 1), false);
    rule(y, "learns breath - 19;");
    due(y.teach(1, 2, 1), true);
    rule(y, "learns breath - 20;");
    due(y.teach(0, 0, 1), false);

    x = two(sentence(10, "the BREATH of the one that teaches is less by LENGTH (it must have as much)"));
    due(x.teach(0, 0, 1), true);
    due(x.of(0, 2), 11);
    due(x.of(1, 2), 20);
    x.forget(1, 0);
    due(x.teach(0, 0, 1), true);
    due(x.of(0, 2), 2);
    x.forget(1, 0);
    due(x.teach(0, 0, 1), false);
    due(x.of(0, 2), 2);
    due(x.teach(1, 0, 1), true);
    due(x.of(0, 2), 0);
    due(x.teach(2, 0, 1), false);
    due(x.of(0, 2), 0);
    due(x.of(1, 1), 2);
    // one less than LENGTH
    y = two(new PerfectFerried());
    y.teach(0, 0, 1);
    y.forget(1, 0);
    y.teach(1, 0, 1);
    y.forget(1, 1);
    due(y.of(0, 2), 9);
    y.teach(2, 0, 1);
    due(y.of(0, 2), 8);
    due(y.teach(0, 0, 1), false);
    y.undo();
    due(y.teach(0, 0, 1), true);
    due(y.of(0, 2), 0);

    x = two(sentence(10, "False, if it can't be, and for others."));
    for (int wrong : new int[] {-1, 3, 8, 31, 32, 33, LOW, BIG}) due(x.teach(wrong, 0, 1), false);
    for (int wrong : new int[] {-1, 2, 6, 32, LOW, BIG}) {
      due(x.teach(0, wrong, 1), false);
      due(x.teach(0, 0, wrong), false);
    }
    due(state(x), before);
    PerfectFerried nobody = new PerfectFerried();
    due(nobody.teach(0, 0, 0), false);
    PerfectFerried full = new PerfectFerried();
    for (int i = 0; i < 8; i++) full.form(0, 1);
    for (int i = 0; i < 6; i++) full.person(0, i == 5 ? 128 : 0);
    due(full.teach(8, 5, 0), false);
    due(full.teach(7, 6, 0), false);
    due(full.teach(7, 5, 6), false);
    due(full.teach(7, 5, 0), true);
    due(full.teach(7, 0, 4), true);
    due(full.of(4, 1), 128);
  }

  private static void forgetting() {
    PerfectFerried x = two(sentence(11, "FORGOTTEN: a FORM that it knows."));
    due(x.forget(0, 2), true);
    due(x.of(0, 1), 3);
    due(x.forget(0, 0), true);
    due(x.forget(0, 1), true);
    due(x.of(0, 1), 0);
    due(x.about(5), 3);
    due(x.of(0, 2), 20);

    x = two(sentence(11, "False, if it knows it not, and for others."));
    String before = state(x);
    due(x.forget(1, 0), false);
    for (int wrong : new int[] {-1, 3, 8, 32, 33, LOW, BIG}) due(x.forget(0, wrong), false);
    for (int wrong : new int[] {-1, 2, 6, LOW, BIG}) due(x.forget(wrong, 0), false);
    due(state(x), before);
    due(x.forget(0, 0), true);
    due(x.forget(0, 0), false);
    due(x.about(5), 1);
    due(new PerfectFerried().forget(0, 0), false);
    PerfectFerried full = new PerfectFerried();
    fill(full);
    due(full.forget(5, 8), false);
    due(full.forget(6, 7), false);
    due(full.forget(5, 7), true);
    due(full.of(5, 1), 127);
  }

  private static void telling() {
    PerfectFerried x = sentence(12, "a STORY by a PERSON that can tell it (see LEAST) with as much BREATH: it has so much less; written down.");
    x.form(0, 5);
    x.form(4, 1);
    x.person(0, 1);
    x.person(0, 3);
    x.person(0, 2);
    x.story(3);
    due(x.tell(0, 0), 20);
    due(x.of(0, 2), 0);
    due(x.tell(0, 0), -1);
    due(x.book(-1, 0), 1);
    // by both FORMS it is 9; at BREATH 2 no more
    due(x.tell(1, 0), 9);
    due(x.tell(1, 0), 9);
    due(x.of(1, 2), 2);
    due(x.tell(1, 0), -1);
    due(x.of(1, 2), 2);
    due(x.tell(2, 0), -1);
    due(x.book(-1, 0), 3);
    due(x.about(5), 3);
    // one less than it needs
    PerfectFerried y = new PerfectFerried();
    y.form(0, 5);
    y.form(2, 1);
    y.person(0, 3);
    y.person(0, 0);
    y.story(0);
    y.teach(1, 0, 1);
    y.forget(0, 1);
    due(y.of(0, 2), 19);
    due(y.tell(0, 0), -1);
    y.undo();
    y.undo();
    y.forget(0, 1);
    due(y.tell(0, 0), 20);
    // 24 are needed: a YEAR brings ten
    PerfectFerried z = new PerfectFerried();
    z.form(1, 6);
    z.person(0, 1);
    z.story(119);
    due(z.tell(0, 0), -1);
    z.year(1);
    due(z.tell(0, 0), 24);
    due(z.of(0, 2), 6);

    x = sentence(12, "A PERSON can tell a STORY, if there is a way by FORMS it knows; it is so long.");
    x.form(4, 1);
    x.form(2, 1);
    x.form(0, 1);
    x.person(0, 0);
    x.person(0, 1);
    x.person(0, 3);
    x.story(119);
    // none, one too few, just enough; what it doesn't know is nothing to it
    due(x.tell(0, 0), -1);
    due(x.tell(1, 0), -1);
    due(x.tell(2, 0), 4);
    x.forget(2, 1);
    due(x.tell(2, 0), -1);
    due(x.of(2, 3), 0);

    x = shore();
    sentence(12, "NONE, if it can't be, and for others.");
    String before = state(x);
    for (int wrong : new int[] {-1, 2, 6, LOW, BIG}) due(x.tell(wrong, 0), -1);
    for (int wrong : new int[] {-1, 1, 4, LOW, BIG}) due(x.tell(0, wrong), -1);
    due(state(x), before);
    due(new PerfectFerried().tell(0, 0), -1);
    PerfectFerried full = new PerfectFerried();
    fill(full);
    due(full.tell(5, 4), -1);
    due(full.tell(6, 3), -1);
    due(full.tell(5, 3) > 0, true);
    due(full.book(0, 1), 5);
    due(full.book(0, 2), 3);
  }

  private static void years() {
    PerfectFerried x = sentence(13, "YEARS pass (1 .. 60): how many FORMS are forgotten in them.");
    due(x.year(1), 0);
    due(x.is(0), 1);
    due(x.year(60), 0);
    due(x.is(0), 61);
    due(x.year(0), -1);
    due(x.year(61), -1);
    due(x.year(-1), -1);
    due(x.year(LOW), -1);
    due(x.year(BIG), -1);
    due(x.is(0), 61);
    x = new PerfectFerried();
    for (int i = 0; i < 8; i++) x.form(0, 1);
    for (int i = 0; i < 6; i++) x.person(0, 255);
    rule(x, "fades 10;");
    due(x.year(1), 48);
    due(x.year(1), 0);
    x.undo();
    x.undo();
    rule(x, "fades if year = 59 then 10 else 0 end;");
    due(x.year(60), 48);

    x = shore();
    sentence(13, "NONE for others, or beyond 9999 (nothing is done then).");
    x.forget(0, 0);
    x.forget(1, 0);
    x.forget(1, 2);
    passTo(x, 9940);
    String before = state(x);
    due(x.year(60), -1);
    due(x.year(61), -1);
    due(state(x), before);
    due(x.year(58), 0);
    due(x.is(0), 9998);
    before = state(x);
    due(x.year(2), -1);
    due(state(x), before);
    due(x.year(1), 0);
    due(x.is(0), 9999);

    x = sentence(13, "YEAR is one more (at 9999 none can pass).");
    passTo(x, 9939);
    due(x.year(60), 0);
    due(x.is(0), 9999);
    due(x.about(5), 30);
    due(x.year(1), -1);
    due(x.is(0), 9999);
    due(x.undo(), 29);
    due(x.is(0), 9998);
    due(x.year(1), 0);
    due(x.is(0), 9999);

    x = sentence(13, "then AGE is one more (99 at most), BREATH 10 more (99 at most).");
    x.form(0, 1);
    x.form(0, 1);
    x.person(97, 0);
    x.person(98, 0);
    x.person(99, 0);
    x.person(0, 3);
    x.person(0, 3);
    rule(x, "fades 0;");
    x.year(1);
    due(x.of(0, 0), 98);
    due(x.of(1, 0), 99);
    due(x.of(2, 0), 99);
    x.year(1);
    due(x.of(0, 0), 99);
    due(x.of(1, 0), 99);
    x.year(1);
    due(x.of(0, 0), 99);
    // 88, 89 and 90 of BREATH
    x.year(4);
    due(x.of(0, 2), 90);
    x.teach(0, 3, 0);
    x.teach(0, 4, 1);
    x.teach(1, 4, 1);
    due(x.of(3, 2), 89);
    due(x.of(4, 2), 88);
    x.year(1);
    due(x.of(0, 2), 99);
    due(x.of(3, 2), 99);
    due(x.of(4, 2), 98);
    x.year(1);
    due(x.of(0, 2), 99);
    due(x.of(4, 2), 99);
  }

  private static void draws() {
    PerfectFerried x = sentence(13, "a draw by 10 (X mod 10, X being (X * 521 + 401) mod 30703 then): below fades: it is forgotten");
    x.form(0, 1);
    x.person(0, 1);
    // the first draw is 271: 1
    rule(x, "fades 1;");
    due(x.year(1), 0);
    due(x.is(1), 18780);
    due(x.undo(), 0);
    rule(x, "fades 2;");
    due(x.year(1), 1);
    due(x.is(1), 18780);
    due(x.of(0, 1), 0);
    due(x.undo(), 0);
    due(x.is(1), 271);
    // the second one is 18780: 0
    rule(x, "fades if year = 1 then 1 else 0 end;");
    due(x.year(2), 1);
    x.undo();
    x.undo();
    rule(x, "fades 0;");
    due(x.year(2), 0);
    due(x.is(1), 21227);
    // 4749 comes behind SEED 16: 9
    x = new PerfectFerried();
    x.form(0, 1);
    x.person(0, 1);
    x.ages(16, 1);
    due(x.is(1), 4749);
    rule(x, "fades 9;");
    due(x.year(1), 0);
    x.undo();
    rule(x, "fades 10;");
    due(x.year(1), 1);

    x = sentence(13, "mod 30703 then");
    // X is 0, and X is 30702
    due(x.ages(9362, 2) >= 0, true);
    due(x.is(1), 0);
    x.form(0, 1);
    x.person(0, 1);
    due(x.year(1), 0);
    due(x.is(1), 401);
    due(x.ages(8875, 2) >= 0, true);
    due(x.is(1), 30702);
    x.year(1);
    due(x.is(1), 30703 - 521 + 401);

    x = sentence(13, "PEOPLE by number: each FORM it knows, by number");
    // 1 0 7 8 6 0 7 1 7 6 5 8: what isn't known has no draw
    for (int i = 0; i < 8; i++) x.form(0, 1);
    x.person(0, 128 + 2);
    x.person(0, 0);
    x.person(0, 1);
    rule(x, "fades 1;");
    due(x.year(1), 1);
    due(x.is(1), 6588);
    due(x.of(0, 1), 2);
    due(x.of(2, 1), 1);
    due(x.year(1), 0);
    due(x.is(1), 12880);
    due(x.year(1), 1);
    due(x.of(0, 1), 0);
    x = new PerfectFerried();
    x.year(60);
    due(x.is(1), 271);
  }

  private static void playing() {
    PerfectFerried x = sentence(14, "NONE: all is done; else the number of the CLAUSE that can't be.");
    due(read(x, ""), 0);
    due(x.played(0), -1);
    due(read(x, "fades 1;learns 1;"), 1);
    due(x.played(1), -1);
    due(read(x, "teach 0 by 0 to 1;"), 2);
    due(x.played(2), 0);
    due(read(x, "year 1;".repeat(23) + "tell 0 by 0;"), 3);
    due(x.played(3), 23);
    due(x.is(0), 23);
    due(x.about(5), 23);

    x = sentence(14, "-2 for others.");
    due(x.played(0), -2);
    due(x.played(-1), -2);
    read(x, "year 1;");
    due(x.played(1), -2);
    due(x.played(0), -1);
    read(x, "");
    read(x, "");
    read(x, "");
    due(x.played(3), -1);
    due(x.played(4), -2);
    due(x.played(-1), -2);
    due(x.played(-2), -2);
    due(x.played(LOW), -2);
    due(x.played(BIG), -2);
    due(x.is(0), 1);

    x = sentence(14, "one that can't be ends it");
    read(x, "form 0 length 1;year 1;");
    for (int i = 0; i < 8; i++) due(x.played(0), -1);
    due(x.about(0), 8);
    due(x.played(0), 0);
    due(x.is(0), 8);
    read(x, "person 0 knows 255;year 1;");
    for (int i = 0; i < 6; i++) due(x.played(1), -1);
    due(x.played(1), 0);
    due(x.about(1), 6);
    due(x.is(0), 14);
    read(x, "story 119;year 1;");
    for (int i = 0; i < 4; i++) due(x.played(2), -1);
    due(x.played(2), 0);
    due(x.about(2), 4);
    due(x.is(0), 18);
    // FORMS that aren't told: 255 of seven
    x = new PerfectFerried();
    read(x, "person 19 knows 255;year 1;");
    for (int i = 0; i < 7; i++) x.form(0, 1);
    due(x.played(0), 0);
    due(x.about(1), 0);
    due(x.is(0), 0);
    x.form(0, 1);
    due(x.played(0), -1);
    due(x.of(0, 1), 255);
    // forgotten once, told while there is BREATH
    x = new PerfectFerried();
    x.form(0, 1);
    x.person(0, 1);
    x.story(0);
    read(x, "forget 0 by 0;story 1;");
    read(x, "tell 0 by 0;story 1;");
    for (int i = 0; i < 3; i++) x.tell(0, 0);
    due(x.of(0, 2), 8);
    x.image();
    due(x.played(1), -1);
    due(x.played(1), -1);
    due(x.played(1), 0);
    due(x.about(2), 3);
    x.back();
    due(x.played(0), -1);
    due(x.played(0), 0);
    due(x.about(2), 2);
    due(x.played(1), 0);
    // teach: FORM, then by, then to
    x = new PerfectFerried();
    x.form(0, 1);
    x.person(0, 1);
    x.person(0, 0);
    read(x, "teach 0 by 0 to 1;story 1;");
    due(x.played(0), -1);
    due(x.of(1, 1), 1);
    due(x.of(0, 2), 19);
    due(x.played(0), 0);
    due(x.about(2), 1);

    x = sentence(14, "its number among all CLAUSES (from 0); what was done stays.");
    read(x, "fades 1;form 0 length 1;learns 1;person 5 knows 1;forget 0 by 0;forget 0 by 0;year 5;");
    due(x.played(0), 5);
    due(x.about(0), 1);
    due(x.about(1), 1);
    due(x.of(0, 1), 0);
    due(x.is(0), 0);
    due(x.about(5), 1);
    due(x.undo(), 0);
    due(x.of(0, 1), 1);

    x = sentence(14, "in their order, as by hand");
    // each NUMBER at its highest, as far as a TEXT can have it told
    for (int i = 0; i < 7; i++) x.form(0, 1);
    for (int i = 0; i < 4; i++) x.person(0, 0);
    for (int i = 0; i < 3; i++) x.story(0);
    read(x, "form 1 length 9;person 98 knows 255;person 99 knows 0;story 119;teach 7 by 4 to 5;tell 3 by 4;forget 7 by 5;year 60;");
    due(x.played(0), -1);
    due(x.ofForm(7, 0), 1);
    due(x.ofForm(7, 1), 9);
    due(x.about(1), 6);
    due(x.of(4, 0), 99);
    due(x.of(5, 0), 99);
    due(x.book(0, 0), 0);
    due(x.book(0, 1), 4);
    due(x.book(0, 2), 3);
    due(x.book(0, 3), 4);
    due(x.is(0), 60);
    due(x.about(5), 30);
    due(x.played(0), 0);
    // ahead of the YEARS: 11 of BREATH, then 7
    PerfectFerried y = new PerfectFerried();
    y.form(0, 1);
    read(y, "form 4 length 9;person 98 knows 3;person 99 knows 0;story 119;teach 1 by 0 to 1;tell 0 by 0;forget 1 by 1;");
    due(y.played(0), -1);
    due(y.of(0, 0), 98);
    due(y.of(0, 1), 3);
    due(y.of(0, 2), 7);
    due(y.of(1, 0), 99);
    due(y.of(1, 1), 0);
    due(y.about(5), 3);
    due(y.middle(), 119);

    x = sentence(14, "its CLAUSES but laws");
    read(x, "fades 10;learns 0;form 0 length 1;person 0 knows 1;person 0 knows 0;teach 0 by 0 to 1;year 1;");
    due(x.played(0), -1);
    due(x.about(4), -1);
    due(x.is(2), 1);
    x.back();
    read(x, "fades 10;learns 0;form 0 length 1;person 0 knows 1;person 0 knows 0;teach 0 by 0 to 1;year 1;");
    x.by(0);
    due(x.played(0), 5);
  }

  private static void playedYears() {
    PerfectFerried x = sentence(14, "(of so many YEARS those that can pass do)");
    read(x, "story 0;year 2;story 1;");
    read(x, "year 60;story 1;");
    x.person(0, 0);
    passTo(x, 9997);
    due(x.played(0), -1);
    due(x.is(0), 9999);
    due(x.about(2), 2);
    due(x.undo(), 29);
    due(x.is(0), 9998);
    // one of the two can pass
    due(x.played(0), 1);
    due(x.is(0), 9999);
    due(x.about(5), 30);
    due(x.about(2), 3);
    // none can
    due(x.played(0), 1);
    due(x.is(0), 9999);
    due(x.about(2), 4);
    for (int i = 29; i >= 0; i--) x.undo();
    due(x.is(0), 9969);
    due(x.played(1), 0);
    due(x.is(0), 9999);
    due(x.about(5), 30);
  }

  private static void ages() {
    PerfectFerried x = sentence(15, "X is SEED (0 .. 9999) * 2 + 271");
    due(x.ages(-1, 1), -1);
    due(x.ages(10000, 1), -1);
    due(x.ages(LOW, 1), -1);
    due(x.ages(BIG, 1), -1);
    due(x.is(1), 271);
    due(x.ages(0, 1), 0);
    due(x.is(1), 18780);
    due(x.ages(9999, 1), 0);
    due(x.is(1), (20269 * 521 + 401) % 30703);

    x = sentence(15, "n times (1 .. 40)");
    due(x.ages(0, 0), -1);
    due(x.ages(0, 41), -1);
    due(x.ages(0, -1), -1);
    due(x.ages(0, LOW), -1);
    due(x.ages(0, BIG), -1);
    due(x.is(1), 271);
    due(x.about(5), 0);
    due(x.ages(0, 1), 0);
    due(x.is(1), 18780);
    int last = 271;
    int years = 0;
    for (int i = 0; i < 40; i++) {
      if (last % 6 >= 4) years++;
      last = (last * 521 + 401) % 30703;
    }
    due(x.ages(0, 40), years);
    due(x.is(1), last);

    x = sentence(15, "AGES: YEAR. NONE for others.");
    fill(x);
    String before = state(x);
    due(x.ages(-1, 1), -1);
    due(x.ages(10000, 1), -1);
    due(x.ages(0, 0), -1);
    due(x.ages(0, 41), -1);
    due(state(x), before);
    due(x.ages(2, 1), 1);
    due(x.is(0), 1);

    x = sentence(15, "It is one STEP: YEAR.");
    // nothing is there, and nothing is done: one STEP all the same
    due(x.ages(0, 1), 0);
    due(x.about(5), 1);
    due(x.undo(), 0);
    due(x.is(1), 271);
    fill(x);
    before = state(x);
    x.ages(9999, 40);
    due(x.about(5), 1);
    due(x.undo(), 0);
    due(state(x), before);
    for (int i = 0; i < 31; i++) x.ages(i, 2);
    due(x.about(5), 30);
  }

  private static void drawsOfAges() {
    PerfectFerried x = sentence(15, "What there are none of isn't.");
    // 0, 1, 2 and 3 without FORMS, PEOPLE, STORIES: X alone is another one
    int[] seeds = {100, 73, 43, 13};
    int[] then = {168, 2737, 2180, 1623};
    for (int i = 0; i < 4; i++) {
      due(x.ages(seeds[i], 2), 0);
      due(x.is(1), (then[i] * 521 + 401) % 30703);
    }
    x.form(0, 1);
    x.story(0);
    for (int i = 0; i < 4; i++) due(x.ages(seeds[i], 2), 0);
    due(x.book(-1, 0), 0);
    x = new PerfectFerried();
    x.person(0, 0);
    x.story(0);
    for (int i = 0; i < 4; i++) due(x.ages(seeds[i], 2), 0);
    due(x.of(0, 2), 20);
    x = new PerfectFerried();
    x.form(0, 1);
    x.person(0, 1);
    due(x.ages(13, 2), 0);
    due(x.book(-1, 0), 0);
    x.story(0);
    due(x.ages(13, 1), 0);
    due(x.book(-1, 0), 1);

    // one of each is enough: 2180 forgets FORM 0 by PERSON 0; 277 teaches it, by PERSON 0 to PERSON 1
    due(x.ages(43, 2), 0);
    due(x.of(0, 1), 0);
    x = new PerfectFerried();
    x.form(0, 1);
    x.person(0, 1);
    x.person(0, 0);
    due(x.ages(3, 1), 0);
    due(x.of(1, 1), 1);

    x = sentence(15, "0, 1 FORM x mod how many is TAUGHT by PERSON x / 6 mod how many to PERSON x / 5 mod how many");
    // 168: FORM 0 by PERSON 28 mod 6 = 4 to PERSON 33 mod 6 = 3
    for (int i = 0; i < 8; i++) x.form(0, i + 1);
    for (int i = 0; i < 6; i++) x.person(0, i == 4 ? 255 : 0);
    x.ages(100, 1);
    due(x.is(2), 255);
    due(x.of(3, 1), 0);
    x.ages(100, 2);
    due(x.of(3, 1), 1);
    due(x.of(4, 2), 19);
    // 277: FORM 5 by PERSON 46 mod 6 = 4 to PERSON 55 mod 6 = 1
    x.ages(3, 1);
    due(x.of(1, 1), 32);
    due(x.of(4, 2), 13);
    // it can't be again
    x.ages(3, 1);
    due(x.of(4, 2), 13);

    x = sentence(15, "2 it is FORGOTTEN by PERSON x / 6 mod how many");
    // 2180: FORM 4 by PERSON 363 mod 6 = 3
    for (int i = 0; i < 8; i++) x.form(0, i + 1);
    for (int i = 0; i < 6; i++) x.person(0, 255);
    x.ages(43, 2);
    due(x.of(3, 1), 255 - 16);
    due(x.is(2), 255);
    x.ages(43, 2);
    due(x.of(3, 1), 255 - 16);
    due(x.about(5), 2);

    x = sentence(15, "3 STORY x mod how many is TOLD by that PERSON (each if it can be)");
    // 273: STORY 1 by PERSON 45 mod 6 = 3
    x.form(0, 3);
    for (int i = 0; i < 6; i++) x.person(0, 1);
    for (int i = 0; i < 4; i++) x.story(i);
    due(x.ages(1, 1), 0);
    due(x.book(-1, 0), 1);
    due(x.book(0, 1), 3);
    due(x.book(0, 2), 1);
    due(x.book(0, 3), 12);
    // 8 of BREATH are too few
    due(x.ages(1, 1), 0);
    due(x.book(-1, 0), 1);
    due(x.of(3, 2), 8);

    x = sentence(15, "4, 5 a YEAR (if it can pass).");
    // 275 is 5; 19822 (behind 273) is 4
    due(x.ages(2, 1), 1);
    due(x.ages(1, 1), 1);
    due(x.ages(1, 2), 2);
    passTo(x, 9998);
    due(x.ages(2, 1), 9999);
    due(x.ages(2, 1), 9999);
    due(x.ages(1, 2), 9999);
    due(x.is(1), (19822 * 521 + 401) % 30703);
    due(x.about(5), 30);
  }

  private static void undoing() {
    PerfectFerried x = sentence(16, "The latest STEP is taken back: how many can be yet. NONE: there is none.");
    due(x.undo(), -1);
    x.form(0, 1);
    x.person(0, 1);
    x.story(0);
    due(x.undo(), -1);
    x.forget(0, 0);
    x.year(1);
    due(x.undo(), 1);
    due(x.undo(), 0);
    due(x.undo(), -1);
    due(x.about(5), 0);
    due(x.of(0, 1), 1);

    x = sentence(16, "the latest 30 can be taken back, the latest first");
    x.form(0, 1);
    x.person(0, 1);
    for (int i = 1; i <= 29; i++) x.year(1);
    due(x.about(5), 29);
    x.year(1);
    due(x.about(5), 30);
    x.year(1);
    due(x.about(5), 30);
    for (int i = 29; i >= 0; i--) {
      due(x.undo(), i);
      due(x.is(0), i + 1);
    }
    due(x.undo(), -1);
    due(x.is(0), 1);
    // round and round: 60 in one call, then some taken back and others done
    x.year(60);
    for (int i = 0; i < 20; i++) x.undo();
    due(x.is(0), 41);
    due(x.about(5), 10);
    x.year(25);
    due(x.about(5), 30);
    for (int i = 29; i >= 0; i--) due(x.undo(), i);
    due(x.is(0), 36);
    due(x.undo(), -1);

    x = sentence(16, "STEPS: TAUGHT, FORGOTTEN, TOLD, a YEAR (each), AGES (see V)");
    x.form(0, 2);
    x.person(0, 1);
    x.person(0, 0);
    x.story(0);
    due(x.about(5), 0);
    x.teach(0, 0, 1);
    due(x.about(5), 1);
    x.forget(1, 0);
    due(x.about(5), 2);
    x.tell(0, 0);
    due(x.about(5), 3);
    x.year(3);
    due(x.about(5), 6);
    // what is refused, told or asked is none
    x.teach(0, 1, 1);
    x.forget(1, 0);
    x.tell(1, 0);
    x.year(0);
    x.ages(0, 0);
    x.foretold(60, 0, 0);
    x.say(0, 0, 1);
    x.seen(0, 1);
    x.by(-1);
    x.image();
    due(x.about(5), 6);
    x.ages(0, 40);
    due(x.about(5), 7);
    for (int i = 6; i >= 0; i--) due(x.undo(), i);
    due(x.of(0, 2), 20);
    due(x.of(0, 1), 1);
    due(x.is(0), 0);
  }

  private static void undoneThings() {
    PerfectFerried x = sentence(16, "(AGES, what each knows, BREATH, YEAR, X, BOOK are as ahead of it;");
    x.form(0, 1);
    for (int i = 0; i < 6; i++) x.person(94 + i, 1);
    x.story(0);
    rule(x, "fades 0;");
    x.tell(0, 0);
    String before = state(x);
    x.year(7);
    x.tell(0, 0);
    x.tell(5, 0);
    x.ages(9999, 40);
    for (int i = 0; i < 3; i++) x.undo();
    due(x.is(0), 7);
    for (int i = 0; i < 7; i++) x.undo();
    due(state(x), before);
    // a BOOK that was full
    PerfectFerried y = new PerfectFerried();
    y.form(0, 1);
    y.person(0, 1);
    y.story(0);
    rule(y, "fades 0;");
    for (int i = 0; i < 31; i++) {
      y.year(1);
      y.tell(0, 0);
    }
    due(y.book(-1, 0), 30);
    due(y.book(0, 0), 2);
    y.undo();
    due(y.book(-1, 0), 30);
    due(y.book(0, 0), 1);
    due(y.book(29, 0), 30);
    y.undo();
    y.undo();
    due(y.book(-1, 0), 29);
    due(y.book(29, 0), -2);

    x = sentence(16, "PEOPLE told since are as told; FORMS, STORIES stay).");
    x.form(0, 3);
    x.person(50, 1);
    x.forget(0, 0);
    x.person(60, 1);
    x.person(99, 0);
    x.story(5);
    x.form(4, 1);
    x.teach(0, 1, 2);
    x.tell(1, 0);
    x.year(1);
    for (int i = 3; i >= 0; i--) due(x.undo(), i);
    due(x.about(1), 3);
    due(x.of(0, 1), 1);
    due(x.of(1, 0), 60);
    due(x.of(1, 1), 1);
    due(x.of(1, 2), 20);
    due(x.of(2, 0), 99);
    due(x.of(2, 1), 0);
    due(x.of(2, 2), 20);
    due(x.about(0), 2);
    due(x.about(2), 1);
    // and so do TEXTS, THE TEXT, SAID, SEEN
    x.year(1);
    rule(x, "fades 1;");
    x.say(0, 0, 1);
    x.seen(0, 1);
    due(x.undo(), 0);
    due(x.about(3), 1);
    due(x.about(4), 0);
    due(x.about(6), 1);
    due(x.about(7), 1);
  }

  private static void ofPeople() {
    PerfectFerried x = sentence(17, "Of a PERSON: 0 AGE, 1 FORMS it knows (bits), 2 BREATH, 3 STORIES it can tell (bits). NONE for others.");
    for (int what = 0; what <= 3; what++) due(x.of(0, what), -1);
    fill(x);
    due(x.of(5, 0), 5);
    due(x.of(5, 1), 255);
    due(x.of(5, 2), 20);
    due(x.of(5, 3), 15);
    for (int wrong : new int[] {-1, 4, LOW, BIG}) due(x.of(5, wrong), -1);
    for (int wrong : new int[] {-1, 6, LOW, BIG}) for (int what = 0; what <= 3; what++) due(x.of(wrong, what), -1);

    x = sentence(17, "3 STORIES it can tell (bits)");
    x.form(0, 9);
    x.form(4, 1);
    x.person(0, 1);
    x.person(0, 2);
    due(x.of(0, 3), 0);
    for (int i = 1; i <= 4; i++) {
      x.story(i);
      // BREATH (20, where 36 are needed) is not asked for
      due(x.of(0, 3), (1 << i) - 1);
      due(x.of(1, 3), 0);
    }
  }

  private static void ofForms() {
    PerfectFerried x = sentence(18, "Of a FORM: 0 KIND, 1 LENGTH, 2 PEOPLE that know it (bits). NONE for others.");
    for (int what = 0; what <= 2; what++) due(x.ofForm(0, what), -1);
    x.form(4, 9);
    due(x.ofForm(0, 0), 4);
    due(x.ofForm(0, 1), 9);
    due(x.ofForm(0, 2), 0);
    for (int what = 0; what <= 2; what++) due(x.ofForm(1, what), -1);
    for (int i = 0; i < 6; i++) x.person(0, 1);
    due(x.ofForm(0, 2), 63);
    x.forget(0, 0);
    due(x.ofForm(0, 2), 62);
    for (int wrong : new int[] {-1, 3, LOW, BIG}) due(x.ofForm(0, wrong), -1);
    fill(x);
    due(x.ofForm(7, 1), 8);
    for (int wrong : new int[] {-1, 8, 32, LOW, BIG}) for (int what = 0; what <= 2; what++) due(x.ofForm(wrong, what), -1);
  }

  private static void lawsAsked() {
    PerfectFerried x = sentence(19, "-100 for others.");
    due(x.law(0, 0, true), -100);
    due(x.law(0, 0, false), -100);
    x.form(0, 1);
    due(x.law(0, 0, true), -100);
    x.person(0, 0);
    due(x.law(0, 0, true), 0);
    due(x.law(0, 0, false), 1);
    for (int wrong : new int[] {-1, 1, 6, LOW, BIG}) {
      due(x.law(wrong, 0, true), -100);
      due(x.law(wrong, 0, false), -100);
      due(x.law(0, wrong, true), -100);
      due(x.law(0, wrong, false), -100);
    }
    fill(x);
    due(x.law(5, 7, true), 0);
    due(x.law(6, 7, true), -100);
    due(x.law(5, 8, true), -100);
    due(x.law(6, 7, false), -100);
    due(x.law(5, 8, false), -100);
    x.back();
    x.person(0, 0);
    due(x.law(0, 0, true), -100);

    sentence(19, "fades (the odds of 10): 0 at least, 10 at most");
    due(fades("-1"), 0);
    due(fades("0"), 0);
    due(fades("1"), 1);
    due(fades("9"), 9);
    due(fades("10"), 10);
    due(fades("11"), 10);
    due(fades("9999*9999"), 10);
    due(fades("-9999*9999"), 0);

    x = sentence(19, "without: AGE by 20, cut.");
    x.form(0, 1);
    int[] age = {0, 19, 20, 39, 40, 99};
    int[] odds = {0, 0, 1, 1, 2, 4};
    for (int i = 0; i < 6; i++) {
      x.person(age[i], 1);
      due(x.law(i, 0, true), odds[i]);
    }
    rule(x, "learns 5;");
    due(x.law(2, 0, true), 1);
    due(x.law(5, 0, true), 4);
    rule(x, "");
    due(x.law(1, 0, true), 0);
    due(x.law(2, 0, true), 1);

    sentence(19, "learns: -99 at least, 99 at most; without: 1.");
    due(learns("98"), 98);
    due(learns("99"), 99);
    due(learns("100"), 99);
    due(learns("-98"), -98);
    due(learns("-99"), -99);
    due(learns("-100"), -99);
    due(learns("9999*9999"), 99);
    due(learns("-9999*9999"), -99);
    x = shore();
    due(x.law(0, 0, false), 1);
    rule(x, "fades 5;");
    due(x.law(0, 0, false), 1);
    rule(x, "learns 0;");
    due(x.law(0, 0, false), 0);
  }

  private static void lawsWeighed() {
    sentence(19, "half ONE (the half, what is not whole away from 0)");
    int[] whole = {0, 1, 2, 3, 99, 100};
    int[] half = {0, 1, 1, 2, 50, 50};
    for (int i = 0; i < whole.length; i++) {
      due(learns("half " + whole[i]), half[i]);
      due(learns("half -" + whole[i]), -half[i]);
      due(learns("-half " + whole[i]), -half[i]);
    }
    due(learns("half (1000*1000+1)-9999*50-49"), 1);
    due(learns("half half half 9"), 2);

    PerfectFerried x = sentence(19, "known ONE (how many know the FORM of that number; 0 for others)");
    due(learns("known 0"), 2);
    due(learns("known 2"), 1);
    due(learns("known 1"), 0);
    due(learns("known 3"), 0);
    due(learns("known -1"), 0);
    due(learns("known 8"), 0);
    due(learns("known 31"), 0);
    due(learns("known 32"), 0);
    due(learns("known 64"), 0);
    due(learns("known -32"), 0);
    due(learns("known 9999"), 0);
    due(learns("known (9999*9999)"), 0);
    due(learns("known (-9999*9999)"), 0);
    for (int i = 0; i < 8; i++) x.form(0, 1);
    for (int i = 0; i < 6; i++) x.person(0, 129);
    rule(x, "learns known 7;fades known 8;");
    due(x.law(0, 0, false), 6);
    due(x.law(0, 0, true), 0);
    rule(x, "learns known (form - 7);fades known 6;");
    due(x.law(0, 7, false), 6);
    due(x.law(0, 6, false), 0);
    due(x.law(0, 0, true), 0);

    sentence(19, "From the left; / cuts towards 0, by 0 it is 0");
    due(learns("7/2"), 3);
    due(learns("-7/2"), -3);
    due(learns("7/-2"), -3);
    due(learns("-7/-2"), 3);
    due(learns("1/2"), 0);
    due(learns("-1/2"), 0);
    due(learns("7/0"), 0);
    due(learns("-7/0+1"), 1);
    due(learns("0/0"), 0);
    due(learns("7/(1-1)*2+5"), 5);
    due(learns("7/half 0+5"), 5);
    due(learns("60/6/5"), 2);
    due(learns("60/6*5"), 50);
    due(learns("9-5-3"), 1);
    due(learns("9-(5-3)"), 7);
    due(learns("1+2*3"), 7);

    sentence(19, "what is above 1000000 (below the same less) is that, at each step.");
    due(learns("if 1000*1000-1<1000*1000 then 1 else 0 end"), 1);
    due(learns("if 1000*1000-1+1=1000*1000 then 1 else 0 end"), 1);
    due(learns("if 1000*1000+1=1000*1000 then 1 else 0 end"), 1);
    due(learns("if 1001*1000=1000*1000 then 1 else 0 end"), 1);
    due(learns("if 999*1001=999*1001 and 999*1001<1000*1000 then 1 else 0 end"), 1);
    due(learns("if 1000*1000+9999-1=999*1000+999 then 1 else 0 end"), 1);
    due(learns("1000*1000+1-9999*100-99"), 1);
    due(learns("9999*9999*9999*9999/9999-99"), 1);
    due(learns("if -1000*1000-1=-1000*1000 then 1 else 0 end"), 1);
    due(learns("if -1000*1000+1>-1000*1000 then 1 else 0 end"), 1);
    due(learns("if -1001*1000=-1000*1000 then 1 else 0 end"), 1);
    due(learns("-1000*1000-1+9999*100+99"), -1);
    due(learns("if -1000*1000-9999+1=-999*1000-999 then 1 else 0 end"), 1);
    due(learns("if -(1000*1000)=0-1000*1000 then 1 else 0 end"), 1);
    due(learns("if (1000*1000)*(1000*1000)=1000*1000 then 1 else 0 end"), 1);
    due(learns("if (1000*1000)*(-1000*1000)=-1000*1000 then 1 else 0 end"), 1);
    due(learns("if (-1000*1000)*(-1000*1000)=1000*1000 then 1 else 0 end"), 1);
    due(learns("if -1000*1000-1000*1000=-1000*1000 then 1 else 0 end"), 1);
    due(learns("if half (9999*9999)=500*1000 then 1 else 0 end"), 1);
  }

  private static void lawsAtTheirEnds() {
    sentence(19, "ASK: not ASK, or SUM one of < <= > >= = # (unlike) SUM.");
    String[] signs = {"<", ">", "=", "<=", ">=", "#"};
    for (int b = 1; b <= 3; b++) {
      // 2 against 1, 2 and 3
      int[] so = {2 < b ? 1 : 0, 2 > b ? 1 : 0, 2 == b ? 1 : 0, 2 <= b ? 1 : 0, 2 >= b ? 1 : 0, 2 != b ? 1 : 0};
      for (int i = 0; i < 6; i++) {
        due(learns("if 2" + signs[i] + b + " then 1 else 0 end"), so[i]);
        due(learns("if not 2" + signs[i] + b + " then 1 else 0 end"), 1 - so[i]);
        due(learns("if not not 2" + signs[i] + b + " then 1 else 0 end"), so[i]);
      }
    }
    due(learns("if -1<0 and -1#1 and -1<=-1 then 1 else 0 end"), 1);

    sentence(19, "or and and look at both sides always, of if just the SUM that is chosen is asked.");
    String[] truth = {"1=2", "1=1"};
    for (int a = 0; a < 2; a++) {
      for (int b = 0; b < 2; b++) {
        due(learns("if " + truth[a] + " or " + truth[b] + " then 1 else 0 end"), a | b);
        due(learns("if " + truth[a] + " and " + truth[b] + " then 1 else 0 end"), a & b);
        for (int c = 0; c < 2; c++) {
          due(learns("if " + truth[a] + " or " + truth[b] + " and " + truth[c] + " then 1 else 0 end"), a | b & c);
          due(learns("if " + truth[a] + " and " + truth[b] + " or " + truth[c] + " then 1 else 0 end"), a & b | c);
          due(learns("if not " + truth[a] + " and " + truth[b] + " or not " + truth[c] + " then 1 else 0 end"), 1 - a & b | 1 - c);
        }
      }
    }
    for (String so : new String[] {"1<2", "1<=2", "2>1", "2>=1", "1=1", "1#2", "not 1=2", "not not 1=1"}) {
      due(learns("if " + so + " and 1=1 then 1 else 0 end"), 1);
      due(learns("if 1=1 and " + so + " then 1 else 0 end"), 1);
      due(learns("if " + so + " or 1=2 then 1 else 0 end"), 1);
      due(learns("if not " + so + " or 1=2 then 1 else 0 end"), 0);
    }
    due(learns("if 1=1 then 2 else 1/0+9999*9999*9999 end"), 2);
    due(learns("if 1=2 then 9999*9999 else 3 end"), 3);

    sentence(19, "if EITHER then SUM else SUM end");
    // eight around one another, with all that can wait: 1 of 2, and 2 of 1, by turns
    String open = "if 1=2or 1=1and 1=0+1*";
    String close = "then2else1end ";
    due(learns(open.repeat(8) + "1 " + close.repeat(8)), 1);
    due(learns(open.repeat(7) + "1 " + close.repeat(7)), 2);
    due(learns(open.repeat(8) + "2 " + close.repeat(8)), 2);
    due(learns("1+if 1=1 then 2 else 3 end*4-5"), 4);
    due(learns("half if 1=1 then 5 else 3 end"), 3);

    PerfectFerried x = sentence(19, "NAMES: year, form (its number), kind, length, age, who (the PERSON), knows (how many FORMS it knows) in both; breath in learns.");
    for (int i = 0; i < 8; i++) x.form(i % 5, i + 1);
    for (int i = 0; i < 6; i++) x.person(99, i == 5 ? 255 : 0);
    String[] names = {"year", "form", "kind", "length", "age", "who", "knows", "breath"};
    int[] first = {0, 0, 0, 1, 99, 0, 0, 20};
    int[] last = {0, 7, 2, 8, 99, 5, 8, 20};
    x.image();
    for (int i = 0; i < 8; i++) {
      rule(x, "learns " + names[i] + ";");
      due(x.law(0, 0, false), first[i]);
      due(x.law(5, 7, false), last[i]);
      x.back();
    }
    rule(x, "learns year - 9900;fades year / 1000;");
    due(x.law(0, 0, false), -99);
    passTo(x, 9999);
    due(x.law(0, 0, false), 99);
    due(x.law(0, 0, true), 9);
  }

  private static void isNow() {
    PerfectFerried x = sentence(20, "0 YEAR, 1 X, 2 FORMS that somebody knows (bits), 3 STORIES. -2 for others.");
    due(x.is(0), 0);
    due(x.is(1), 271);
    due(x.is(2), 0);
    due(x.is(3), 0);
    for (int wrong : new int[] {-1, 4, LOW, BIG}) due(x.is(wrong), -2);
    fill(x);
    due(x.is(2), 255);
    due(x.is(3), 4);
    due(x.is(-1), -2);
    due(x.is(4), -2);

    x = sentence(20, "2 FORMS that somebody knows (bits)");
    for (int i = 0; i < 8; i++) x.form(0, 1);
    due(x.is(2), 0);
    x.person(0, 0);
    due(x.is(2), 0);
    x.person(0, 129);
    x.person(0, 128);
    due(x.is(2), 129);
    x.forget(1, 7);
    due(x.is(2), 129);
    x.forget(2, 7);
    due(x.is(2), 1);
    // the first one alone, and the last of six
    x = new PerfectFerried();
    x.form(0, 1);
    x.form(0, 1);
    x.person(0, 1);
    due(x.is(2), 1);
    for (int i = 1; i < 6; i++) x.person(0, i == 5 ? 2 : 0);
    due(x.is(2), 3);
  }

  /** PERSON 0 tells STORIES 0 and 1 by turns, one in a YEAR. */
  private static PerfectFerried teller(PerfectFerried x, int times) {
    x.form(0, 1);
    x.person(0, 1);
    x.story(0);
    x.story(1);
    rule(x, "fades 0;");
    for (int i = 0; i < times; i++) {
      x.year(1);
      x.tell(0, i % 2);
    }
    return x;
  }

  private static void book() {
    PerfectFerried x = sentence(21, "BOOK (the latest 30 tellings): YEAR, PERSON, STORY, how long.");
    teller(x, 29);
    due(x.book(-1, 0), 29);
    due(x.book(0, 0), 1);
    due(x.book(28, 0), 29);
    due(x.book(29, 0), -2);
    x.year(1);
    x.tell(0, 1);
    due(x.book(-1, 0), 30);
    due(x.book(0, 0), 1);
    due(x.book(29, 0), 30);
    x.year(1);
    x.tell(0, 0);
    due(x.book(-1, 0), 30);
    for (int i = 0; i < 30; i++) {
      due(x.book(i, 0), i + 2);
      due(x.book(i, 1), 0);
      due(x.book(i, 2), (i + 1) % 2);
      due(x.book(i, 3), 4);
    }
    due(x.book(30, 0), -2);

    x = sentence(21, "how many (i NONE); the i-th, from the eldest on");
    due(x.book(-1, 0), 0);
    due(x.book(0, 0), -2);
    teller(x, 2);
    due(x.book(-1, 3), 2);
    due(x.book(0, 0), 1);
    due(x.book(1, 0), 2);
    due(x.book(2, 0), -2);

    x = sentence(21, "-2 if there is none such, and for others.");
    due(x.book(0, 3), -2);
    teller(x, 1);
    for (int wrong : new int[] {-2, 1, 30, LOW, BIG}) for (int what = 0; what <= 3; what++) due(x.book(wrong, what), -2);
    for (int wrong : new int[] {-1, 4, LOW, BIG}) due(x.book(0, wrong), -2);
    due(x.book(0, 0), 1);
    due(x.book(0, 3), 4);
  }

  private static void foretelling() {
    PerfectFerried x = sentence(22, "FORETOLD behind n YEARS (1 .. 60; those that can pass), nothing else being done.");
    x.person(30, 0);
    due(x.foretold(0, 0, 1), -1);
    due(x.foretold(1, 0, 1), 31);
    due(x.foretold(60, 0, 1), 90);
    due(x.foretold(61, 0, 1), -1);
    x.person(40, 0);
    due(x.foretold(59, 1, 1), 99);
    due(x.foretold(60, 1, 1), 99);
    passTo(x, 9997);
    x.person(7, 0);
    due(x.foretold(1, 2, 1), 8);
    due(x.foretold(2, 2, 1), 9);
    due(x.foretold(3, 2, 1), 9);
    due(x.foretold(60, 2, 1), 9);
    x.year(2);
    due(x.foretold(1, 2, 1), 9);
    due(x.foretold(60, 2, 0), 0);
    due(x.is(0), 9999);

    x = sentence(22, "0 FORMS (bits), 1 AGE. NONE for others.");
    due(x.foretold(1, 0, 0), -1);
    fill(x);
    x.by(3);
    String before = state(x);
    due(x.foretold(1, 5, 1), 6);
    due(x.foretold(60, 5, 0) < 255, true);
    for (int wrong : new int[] {-1, 0, 61, LOW, BIG}) {
      due(x.foretold(wrong, 0, 0), -1);
      due(x.foretold(wrong, 0, 1), -1);
    }
    for (int wrong : new int[] {-1, 6, LOW, BIG}) {
      due(x.foretold(1, wrong, 0), -1);
      due(x.foretold(1, wrong, 1), -1);
    }
    for (int wrong : new int[] {-1, 2, LOW, BIG}) due(x.foretold(1, 0, wrong), -1);
    // nothing was done
    due(state(x), before);
    int forms = x.foretold(60, 5, 0);
    x.year(60);
    due(x.of(5, 1), forms);
  }
}
