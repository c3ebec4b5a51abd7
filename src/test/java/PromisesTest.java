/** Each promise by hand: ordinary calls, the edges that the document names, and wrong ones. */
public final class PromisesTest extends Checks {
  public static void main(String[] args) {
    newObject(); forms(); people(); stories(); tape(); texts(); faults(); ruled();
    taught(); forgotten(); told(); years(); playedTexts(); agesOfDraws(); undone();
    ofPeople(); ofForms(); laws(); isNow(); bookOfTellings(); foretoldYears();
    ordersAndSayings(); saidAndCould(); leastSayings(); counsel(); lostForms(); seenAndWhose();
    richestAndRarest(); ledgers(); images(); imagesInside(); abouts();
    finish();
  }

  private static void newObject() {
    promise = 1;
    PerfectFerried x = new PerfectFerried();
    for (int what = 0; what <= 8; what++) due(x.about(what), what == 4 ? -1 : 0);
    due(x.is(0), 0);
    due(x.is(1), 271);
    due(x.is(2), 0);
    due(x.undo(), -1);
    due(x.book(-1, 0), 0);
    due(x.fault(0), -1);
    x.form(0, 1);
    x.person(3, 1);
    x.story(3);
    x.year(5);
    x.say(0, 1, 2);
    due(x.back(), 0);
    for (int what = 0; what <= 8; what++) due(x.about(what), what == 4 ? -1 : 0);
    due(x.is(1), 271);
    due(PerfectFerried.NONE, -1);
  }

  private static void forms() {
    promise = 2;
    PerfectFerried x = new PerfectFerried();
    due(x.form(-1, 1), -1);
    due(x.form(5, 1), -1);
    due(x.form(0, 0), -1);
    due(x.form(0, 10), -1);
    due(x.form(LOW, BIG), -1);
    due(x.about(0), 0);
    for (int i = 0; i < 8; i++) due(x.form(i % 5, i + 1), i);
    due(x.form(0, 9), -1);
    due(x.about(0), 8);
    due(x.ofForm(7, 0), 2);
    due(x.ofForm(7, 1), 8);
  }

  private static void people() {
    promise = 3;
    PerfectFerried x = new PerfectFerried();
    due(x.person(0, 1), -1);
    due(x.person(0, 0), 0);
    x.form(0, 1);
    x.form(1, 9);
    due(x.person(99, 3), 1);
    due(x.person(100, 3), -1);
    due(x.person(-1, 3), -1);
    due(x.person(1, 4), -1);
    due(x.person(1, -1), -1);
    due(x.person(1, LOW), -1);
    due(x.of(1, 0), 99);
    due(x.of(1, 1), 3);
    due(x.of(1, 2), 20);
    for (int i = 2; i < 6; i++) due(x.person(i, 0), i);
    due(x.person(1, 1), -1);
    due(x.about(1), 6);
  }

  private static void stories() {
    promise = 4;
    PerfectFerried x = new PerfectFerried();
    due(x.story(-1), -1);
    due(x.story(120), -1);
    due(x.story(119), 0);
    due(x.story(119), 1);
    due(x.story(0), 2);
    due(x.story(60), 3);
    due(x.story(60), -1);
    due(x.about(2), 4);
  }

  private static void tape() {
    promise = 5;
    PerfectFerried x = new PerfectFerried();
    for (int i = 1; i <= 15; i++) due(x.feed(0, 0, 0, 0, 0), 20 * i);
    due(x.feed(0, 0, 0, 0, 0), -1);
    due(x.about(8), 300);
    due(x.end(281), 281);
    due(x.feed(0, 0, 0, 0, 0), -1);
    due(x.about(8), 281);
    due(x.end(280), 280);
    due(x.feed(0, 0, 0, 0, 0), 300);
    // the highest byte of a comes first: "year 1;" and thirteen blanks
    x.end(0);
    due(x.feed(0x79656172, 0x20313b20, 0x20202020, 0x20202020, 0x20202020), 20);
    due(x.text(), 0);
    due(x.played(0), -1);
    due(x.is(0), 1);
    promise = 6;
    x = new PerfectFerried();
    due(x.end(0), 0);
    due(x.end(1), -1);
    due(x.end(-1), -1);
    x.feed(0, 0, 0, 0, 0);
    due(x.end(21), -1);
    due(x.end(LOW), -1);
    due(x.about(8), 20);
    due(x.end(20), 20);
    due(x.end(7), 7);
    due(x.end(8), -1);
    due(x.about(8), 7);
  }

  private static void texts() {
    promise = 7;
    PerfectFerried x = new PerfectFerried();
    due(x.text(), 0);
    due(x.played(0), -1);
    due(read(x, "year 61;"), -1);
    due(x.about(8), 0);
    due(x.about(3), 1);
    due(read(x, "year 60;"), 1);
    due(x.about(8), 0);
    due(read(x, "\n year\n60 ; "), 2);
    due(read(x, "fades0;learns-1;form1length 2;"), 3);
    due(x.fault(0), 0);
    put(x, "nothing");
    due(x.text(), -1);
    due(x.about(8), 7);
    due(x.fault(0), 0);
    due(x.about(3), 4);
  }

  private static void faults() {
    promise = 8;
    PerfectFerried x = new PerfectFerried();
    due(x.fault(0), -1);
    due(x.fault(1), -1);
    read(x, "story 120;");
    due(x.fault(0), 2);
    due(x.fault(1), 6);
    due(x.fault(2), -1);
    due(x.fault(-1), -1);
    x.back();
    due(x.fault(1), 6);
    read(x, "story 119;");
    due(x.fault(0), 0);
    due(x.fault(1), -1);
    due(faultOf(""), -1);
    due(faultOf(" \n "), -1);
    // 1: what can't stand there, or is none
    due(faultOf(";"), 1);
    due(faultOf("  Year 1;"), 21);
    due(faultOf("year\t1;"), 41);
    due(faultOf("year ; "), 51);
    due(faultOf("year 1; years 1;"), 81);
    due(faultOf("year 1  "), 81);
    due(faultOf("fades 1 breath;"), 81);
    due(faultOf("fades 1 10000;"), 81);
    due(faultOf("fades not 1 = 1;"), 61);
    due(faultOf("fades fades;"), 61);
    due(faultOf("fades (1;"), 81);
    due(faultOf("fades 1);"), 71);
    due(faultOf("fades (1 < 2);"), 91);
    due(faultOf("fades ;"), 61);
    due(faultOf("fades 1 +;"), 91);
    due(faultOf("fades + 1;"), 61);
    due(faultOf("fades if 1 < 2 < 3 then 1 else 2 end;"), 151);
    due(faultOf("fades if (1 < 2) then 1 else 2 end;"), 121);
    due(faultOf("fades if 1 < = 2 then 1 else 2 end;"), 131);
    due(faultOf("fades if 1 < 2 then 1 end;"), 221);
    due(faultOf("fades if 1 < 2 then 1 else 2;"), 281);
    due(faultOf("form 1 breath 2;"), 71);
    due(faultOf("fades " + (char) 233 + ";"), 61);
    due(faultOf("fades who$"), 91);
    due(faultOf("fades who!=1;"), 91);
    due(faultOf("person 1 known 1;"), 91);
    due(faultOf("fades 1; learns 1 = 1;"), 181);
    due(faultOf("persons 1;"), 1);
    due(faultOf("fadesss 1;"), 1);
    due(faultOf("fades kindz;"), 61);
    due(faultOf("fades kindZ;"), 61);
    due(faultOf("fades kinda;"), 61);
    due(faultOf("fades kindA;"), 61);
    due(faultOf("fades kin;"), 61);
    due(faultOf("fades kind[;"), 101);
    due(faultOf("fades kind@;"), 101);
    due(faultOf("fades 1/2:3;"), 91);
    String full = " ".repeat(294);
    due(faultOf(full + "fades "), 3001);
    due(faultOf(full + "fadesx"), 2941);
    due(faultOf(full + " year1"), 3001);
    due(faultOf(" ".repeat(293) + "fades 1"), 3001);
    due(faultOf(" ".repeat(292) + "fades 1<"), 2991);
    due(faultOf(" ".repeat(293) + "year 1;"), -1);
    // what stood on the tape behind its end is gone
    PerfectFerried z = new PerfectFerried();
    put(z, "year 10;");
    z.end(6);
    z.feed(0x3b202020, 0x20202020, 0x20202020, 0x20202020, 0x20202020);
    due(z.text(), 0);
    z.played(0);
    due(z.is(0), 1);
    put(z, "fades 1<=2;");
    z.end(8);
    due(z.text(), -1);
    due(z.fault(1), 7);
    // 2: NUMBERS
    due(faultOf("fades 9999;"), -1);
    due(faultOf("fades 10000;"), 62);
    due(faultOf("fades 99999999999999999999;"), 62);
    due(faultOf("fades 000000000000000000009;"), -1);
    due(faultOf("form 4 length 9;"), -1);
    due(faultOf("form 4 length 0;"), 142);
    due(faultOf("person 99 knows 255;"), -1);
    due(faultOf("person 100 knows 255;"), 72);
    due(faultOf("person 99 knows 256;"), 162);
    due(faultOf("teach 7 by 5 to 5;"), -1);
    due(faultOf("forget 7 by 5;"), -1);
    due(faultOf("forget 7 by 6;"), 122);
    due(faultOf("tell 3 by 5;"), -1);
    due(faultOf("year 0;"), 52);
    due(faultOf("year 60;"), -1);
    // 3: nine around one another
    due(faultOf("fades ((((((((1))))))));"), -1);
    due(faultOf("fades (((((((((1)))))))));"), 143);
    due(faultOf("fades --------1;"), -1);
    due(faultOf("fades ---------1;"), 143);
    due(faultOf("fades 1--------1;"), -1);
    due(faultOf("fades 1---------1;"), -1);
    due(faultOf("fades 1----------1;"), 163);
    due(faultOf("fades -(half known -(half known 1));"), -1);
    due(faultOf("fades -(half known -(half known -1));"), 323);
    due(faultOf("fades if not not not not not not not 1=1 then 1 else 2 end;"), -1);
    due(faultOf("fades if not not not not not not not not 1=1 then 1 else 2 end;"), 373);
    due(faultOf("fades if not not not not not not not 1=(1) then 1 else 2 end;"), 393);
    due(faultOf("fades (((((((1)+(1)))))))+((((((((1))))))));"), -1);
    // 4: a law for the second time
    due(faultOf("fades 1;learns 1;fades 1;"), 174);
    due(faultOf("learns 1;learns;"), 94);
    // 5: a NAME of the other law
    due(faultOf("fades breath;"), 65);
    due(faultOf("learns breath;fades 1+breath;"), 225);
    due(faultOf("fades year+form+kind+length+age+who+knows;"), -1);
    due(faultOf("learns year+form+kind+length+age+who+knows+breath;"), -1);
    // 6: the 25th CLAUSE; of one TOKEN the least
    StringBuilder many = new StringBuilder("fades 1;");
    for (int i = 0; i < 23; i++) many.append("story 1;");
    due(faultOf(many.toString()), -1);
    due(faultOf(many + "story 1;"), 1926);
    due(faultOf(many + "story 1000;"), 1926);
    due(faultOf(many + "fades 1;"), 1924);
    due(faultOf(many + "learns 1;"), 1926);
    due(faultOf(many + "who 1;"), 1921);
    due(faultOf(many + " \n"), -1);
  }

  private static void ruled() {
    promise = 9;
    PerfectFerried x = shore();
    due(x.by(0), false);
    due(x.by(-1), true);
    read(x, "fades 7;");
    due(x.by(1), false);
    due(x.by(-2), false);
    due(x.about(4), -1);
    due(x.by(0), true);
    due(x.about(4), 0);
    due(x.law(0, 0, true), 7);
    due(x.by(4), false);
    due(x.about(4), 0);
    due(x.by(-1), true);
    due(x.law(0, 0, true), 0);
  }

  private static void taught() {
    promise = 10;
    PerfectFerried x = shore();
    due(x.teach(2, 0, 1), false);
    due(x.teach(0, 1, 0), false);
    due(x.teach(1, 1, 0), false);
    due(x.teach(2, 1, 1), false);
    due(x.teach(3, 1, 0), false);
    due(x.teach(-1, 1, 0), false);
    due(x.teach(2, 2, 0), false);
    due(x.teach(2, 1, 2), false);
    due(x.teach(2, -1, 0), false);
    due(x.teach(2, 1, -1), false);
    due(x.about(5), 0);
    due(x.teach(2, 1, 0), true);
    due(x.of(0, 1), 5);
    due(x.of(1, 1), 5);
    due(x.of(1, 2), 17);
    due(x.of(0, 2), 20);
    due(x.about(5), 1);
    // breath just enough, and one short
    for (int i = 0; i < 5; i++) {
      x.forget(0, 2);
      due(x.teach(2, 1, 0), true);
    }
    due(x.of(1, 2), 2);
    x.forget(0, 2);
    due(x.teach(2, 1, 0), false);
    x.forget(0, 0);
    due(x.teach(0, 1, 0), true);
    due(x.of(1, 2), 0);
    // learns is asked of the one that learns, and must be above 0
    x = shore();
    read(x, "learns age - 9;");
    read(x, "learns age - 8;");
    x.by(0);
    due(x.teach(2, 1, 0), false);
    x.by(1);
    due(x.teach(2, 1, 0), true);
  }

  private static void forgotten() {
    promise = 11;
    PerfectFerried x = shore();
    due(x.forget(0, 1), false);
    due(x.forget(2, 0), false);
    due(x.forget(-1, 0), false);
    due(x.forget(0, -1), false);
    due(x.forget(0, 3), false);
    due(x.forget(1, 32), false);
    due(x.about(5), 0);
    due(x.forget(1, 0), true);
    due(x.of(1, 1), 4);
    due(x.of(0, 1), 1);
    due(x.about(5), 1);
    due(x.forget(1, 0), false);
    due(x.of(1, 2), 20);
  }

  private static void told() {
    promise = 12;
    PerfectFerried x = shore();
    due(x.tell(0, 1), -1);
    due(x.tell(2, 0), -1);
    due(x.tell(-1, 0), -1);
    due(x.tell(0, -1), -1);
    due(x.tell(0, 0), 8);
    due(x.of(0, 2), 12);
    due(x.tell(0, 0), 8);
    due(x.tell(0, 0), -1);
    due(x.of(0, 2), 4);
    due(x.book(-1, 0), 2);
    due(x.about(5), 2);
    x.forget(1, 0);
    due(x.tell(1, 0), -1);
    due(x.of(1, 2), 20);
    // as much BREATH as it needs is enough
    x = new PerfectFerried();
    x.form(0, 5);
    x.person(0, 1);
    x.story(100);
    due(x.tell(0, 0), 20);
    due(x.of(0, 2), 0);
  }

  private static void years() {
    promise = 13;
    PerfectFerried x = shore();
    due(x.year(0), -1);
    due(x.year(61), -1);
    due(x.year(-1), -1);
    due(x.is(0), 0);
    // draws 271, 18780, 21227: 1, 0, 7; fades of 30 is 1: the second is below it
    due(x.year(1), 1);
    due(x.of(0, 1), 1);
    due(x.of(1, 1), 4);
    due(x.is(1), 6588);
    due(x.is(0), 1);
    due(x.of(0, 0), 10);
    due(x.of(0, 2), 30);
    due(x.about(5), 1);
    due(x.year(2) >= 0, true);
    due(x.about(5), 3);
    // fades of 99 is 4: draws 1, 0, 7, 8 (271, 18780, 21227, 6588), one in each YEAR
    x = new PerfectFerried();
    x.form(0, 1);
    x.form(0, 1);
    x.person(99, 1);
    x.person(0, 2);
    due(x.year(1), 1);
    x.undo();
    x.person(99, 2);
    // 1: forgotten; 0: not below 0; 7: not below 4; then 6588: 8, 24556: 6
    due(x.year(2), 1);
    due(x.of(2, 1), 2);
    x.undo();
    x.undo();
    read(x, "fades if year = who then 10 else 0 end;");
    x.by(0);
    due(x.year(3), 3);
    due(x.is(2), 0);
    // AGE and BREATH have an end
    x = new PerfectFerried();
    x.person(98, 0);
    due(x.year(7), 0);
    due(x.of(0, 0), 99);
    due(x.of(0, 2), 90);
    due(x.year(1), 0);
    due(x.of(0, 2), 99);
    due(x.is(1), 271);
    // up to 9999, not beyond
    for (int i = 0; i < 166; i++) x.year(60);
    due(x.is(0), 9968);
    due(x.year(32), -1);
    due(x.is(0), 9968);
    due(x.year(31), 0);
    due(x.year(1), -1);
    due(x.about(5), 30);
    // fades is asked as things are then: known falls as FORMS are forgotten
    x = new PerfectFerried();
    x.form(0, 1);
    x.person(0, 1);
    x.person(0, 1);
    read(x, "fades known 0 * 5;");
    x.by(0);
    // draws 1 (below 10: forgotten), 0 (below 5: forgotten)
    due(x.year(1), 2);
    x.undo();
    x.by(-1);
    read(x, "fades if known 0 = 2 then 2 else 0 end;");
    x.by(1);
    due(x.year(1), 1);
    due(x.of(0, 1), 0);
    due(x.of(1, 1), 1);
  }

  private static void playedTexts() {
    promise = 14;
    PerfectFerried x = new PerfectFerried();
    due(x.played(0), -2);
    due(x.played(-1), -2);
    read(x, "learns 0; form 0 length 1; fades 10; person 9 knows 1; person 8 knows 0; story 3; teach 0 by 0 to 1; tell 0 by 1; forget 0 by 1; year 2; tell 0 by 0; tell 0 by 1;");
    due(x.played(1), -2);
    // nothing rules: the laws of a TEXT that is played are none
    due(x.played(0), 11);
    due(x.about(5), 6);
    due(x.book(0, 1), 1);
    due(x.of(0, 2), 35);
    due(x.of(0, 0), 11);
    // it rules now: there are FORMS and PEOPLE anew, then learns is 0
    x.by(0);
    due(x.played(0), 6);
    due(x.about(0), 2);
    due(x.about(1), 4);
    due(x.about(2), 2);
    due(read(x, "year 60;"), 1);
    for (int i = 0; i < 166; i++) due(x.played(1), -1);
    due(x.is(0), 9962);
    x.year(36);
    due(x.is(0), 9998);
    due(x.played(1), 0);
    due(x.is(0), 9999);
    due(x.played(1), 0);
    x.undo();
    due(read(x, "year 1;"), 2);
    due(x.played(2), -1);
    due(x.played(2), 0);
    due(x.is(0), 9999);
    x = new PerfectFerried();
    x.form(0, 1);
    x.form(0, 1);
    due(read(x, "person 1 knows 4;"), 0);
    due(x.played(0), 0);
    x.form(0, 1);
    due(x.played(0), -1);
    due(read(x, "story 0; teach 0 by 0 to 0;"), 1);
    due(x.played(1), 1);
    due(x.about(2), 1);
    due(read(x, "form 0 length 1;form 0 length 1;form 0 length 1;form 0 length 1;form 0 length 1;form 0 length 1;"), 2);
    due(x.played(2), 5);
    due(x.about(0), 8);
  }

  private static void agesOfDraws() {
    promise = 15;
    PerfectFerried x = new PerfectFerried();
    due(x.ages(-1, 1), -1);
    due(x.ages(10000, 1), -1);
    due(x.ages(0, 0), -1);
    due(x.ages(0, 41), -1);
    due(x.about(5), 0);
    due(x.is(1), 271);
    // draws 271 (1), 18780 (0), 21227 (5), 6588 (0): nobody to teach, one YEAR
    due(x.ages(0, 4), 1);
    due(x.about(5), 1);
    due(x.undo(), 0);
    due(x.is(0), 0);
    due(x.is(1), 271);
    due(x.ages(9999, 40) > 0, true);
    // 9999 * 2 + 271 = 20269: 20269 mod 6 is 1; X anew is 20269 * 521 + 401 mod 30703
    due(x.ages(9999, 1) >= 0, true);
    due(x.is(1), (20269 * 521 + 401) % 30703);
    // 1: FORM 271 mod 3 = 1 by PERSON 45 mod 2 = 1 to PERSON 54 mod 2 = 0
    x = new PerfectFerried();
    x.form(0, 2);
    x.form(1, 3);
    x.form(2, 4);
    x.person(5, 0);
    x.person(5, 2);
    due(x.ages(0, 1), 0);
    due(x.of(0, 1), 2);
    due(x.of(1, 2), 17);
    // 2: SEED 2 is X 275, 275 mod 6 = 5: a YEAR; SEED 3: 277 mod 6 = 1; SEED 5: 281 mod 6 = 5
    due(x.ages(2, 1), 1);
    // SEED 1: 273 mod 6 = 3: STORY 273 mod 2 = 1 by PERSON 45 mod 2 = 1
    x.story(4);
    x.story(5);
    due(x.ages(1, 1), 1);
    due(x.book(0, 1), 1);
    due(x.book(0, 2), 1);
    due(x.book(0, 3), 12);
    due(x.about(5), 3);
    // SEED 43: 357 mod 6 = 3 (no STORY), then 2180 mod 6 = 2: FORM 2180 mod 3 = 2 by PERSON 363 mod 2 = 1
    PerfectFerried y = new PerfectFerried();
    y.form(0, 1);
    y.form(0, 1);
    y.form(0, 1);
    y.person(0, 7);
    y.person(0, 7);
    due(y.ages(43, 1), 0);
    due(y.of(1, 1), 7);
    due(y.ages(43, 2), 0);
    due(y.of(1, 1), 3);
    due(y.of(0, 1), 7);
    due(y.about(5), 2);
    // one of each is enough: SEED 0 can't (to itself), SEED 1 tells, SEED 43 forgets at last
    PerfectFerried one = new PerfectFerried();
    one.form(0, 1);
    one.person(0, 1);
    one.story(0);
    due(one.ages(0, 1), 0);
    due(one.ages(1, 1), 0);
    due(one.book(-1, 0), 1);
    due(one.ages(43, 2), 0);
    due(one.book(-1, 0), 2);
    due(one.of(0, 1), 0);
    // at 9999 no YEAR passes, and X is anew all the same
    for (int i = 0; i < 166; i++) y.year(60);
    y.year(39);
    due(y.ages(2, 1), 9999);
    due(y.is(1), (275 * 521 + 401) % 30703);
  }

  private static void undone() {
    promise = 16;
    PerfectFerried x = shore();
    due(x.undo(), -1);
    x.teach(2, 1, 0);
    x.forget(0, 0);
    x.tell(1, 0);
    x.year(2);
    x.ages(17, 30);
    due(x.about(5), 6);
    due(x.undo(), 5);
    due(x.is(0), 2);
    due(x.undo(), 4);
    due(x.undo(), 3);
    due(x.is(0), 0);
    due(x.is(1), 271);
    due(x.of(0, 0), 9);
    due(x.of(1, 2), 9);
    due(x.undo(), 2);
    due(x.of(1, 2), 17);
    due(x.book(-1, 0), 0);
    due(x.undo(), 1);
    due(x.of(0, 1), 5);
    due(x.undo(), 0);
    due(x.of(0, 1), 1);
    due(x.of(1, 2), 20);
    due(x.undo(), -1);
    // PEOPLE told since are as told; FORMS and STORIES stay
    x.forget(0, 0);
    x.person(50, 7);
    x.form(1, 1);
    x.story(1);
    x.year(3);
    for (int i = 3; i >= 0; i--) due(x.undo(), i);
    due(x.of(2, 0), 50);
    due(x.of(2, 1), 7);
    due(x.of(2, 2), 20);
    due(x.about(0), 4);
    due(x.about(2), 2);
    // the latest 30 alone
    x.year(40);
    due(x.about(5), 30);
    for (int i = 29; i >= 0; i--) due(x.undo(), i);
    due(x.undo(), -1);
    due(x.is(0), 10);
    // the BOOK is as ahead of it: what was pushed out is there again
    PerfectFerried y = new PerfectFerried();
    y.form(0, 1);
    y.person(0, 1);
    y.story(0);
    y.story(1);
    read(y, "fades 0;");
    y.by(0);
    y.tell(0, 1);
    for (int i = 0; i < 31; i++) {
      y.year(1);
      y.tell(0, 0);
    }
    due(y.book(-1, 0), 30);
    for (int i = 0; i < 30; i++) due(y.book(i, 0), i + 2);
    y.undo();
    y.undo();
    due(y.book(0, 0), 1);
    due(y.book(29, 0), 30);
    y.undo();
    due(y.book(0, 2), 1);
    due(y.book(0, 0), 0);
    due(y.book(29, 0), 29);
    y.undo();
    y.undo();
    due(y.book(-1, 0), 29);
  }

  private static void ofPeople() {
    promise = 17;
    PerfectFerried x = shore();
    due(x.of(1, 0), 30);
    due(x.of(1, 1), 5);
    due(x.of(1, 2), 20);
    due(x.of(1, 3), 1);
    due(x.of(1, 4), -1);
    due(x.of(1, -1), -1);
    due(x.of(2, 0), -1);
    due(x.of(-1, 0), -1);
    x.story(3);
    x.story(3);
    due(x.of(1, 3), 7);
    x.tell(1, 0);
    x.tell(1, 0);
    due(x.of(1, 3), 7);
    x.forget(1, 0);
    due(x.of(1, 3), 0);
  }

  private static void ofForms() {
    promise = 18;
    PerfectFerried x = shore();
    due(x.ofForm(1, 0), 3);
    due(x.ofForm(1, 1), 7);
    due(x.ofForm(0, 2), 3);
    due(x.ofForm(1, 2), 0);
    due(x.ofForm(2, 2), 2);
    due(x.ofForm(0, 3), -1);
    due(x.ofForm(0, -1), -1);
    due(x.ofForm(3, 0), -1);
    due(x.ofForm(-1, 0), -1);
  }

  private static void laws() {
    promise = 19;
    PerfectFerried x = shore();
    x.person(99, 0);
    due(x.law(0, 0, true), 0);
    due(x.law(1, 1, true), 1);
    due(x.law(2, 1, true), 4);
    due(x.law(2, 1, false), 1);
    due(x.law(3, 0, true), -100);
    due(x.law(-1, 0, true), -100);
    due(x.law(0, 3, false), -100);
    due(x.law(0, -1, false), -100);
    read(x, "learns 5;");
    read(x, "fades 5;");
    x.by(0);
    due(x.law(1, 1, true), 1);
    x.by(1);
    due(x.law(1, 1, false), 1);
    // bounds
    due(says("11", true), 10);
    due(says("-1", true), 0);
    due(learns("100"), 99);
    due(learns("-100"), -99);
    due(learns("-98"), -98);
    // NAMES: PERSON 1 and FORM 2
    due(learns("year"), 0);
    due(learns("form"), 2);
    due(learns("kind"), 4);
    due(learns("length"), 3);
    due(learns("age"), 30);
    due(learns("who"), 1);
    due(learns("knows"), 2);
    due(learns("breath"), 20);
    // from the left, * and / first
    due(learns("10-3-2"), 5);
    due(learns("2+3*4"), 14);
    due(learns("(2+3)*4"), 20);
    due(learns("20/3*3"), 18);
    due(learns("-7/2"), -3);
    due(learns("7/-2"), -3);
    due(learns("7/0"), 0);
    due(learns("7/0+1"), 1);
    due(learns("-2*3"), -6);
    due(learns("2*-3"), -6);
    due(learns("2--3"), 5);
    due(learns("-(1-5)"), 4);
    // half: away from 0
    due(learns("half 7"), 4);
    due(learns("half -7"), -4);
    due(learns("half 8"), 4);
    due(learns("half -8"), -4);
    due(learns("half 1"), 1);
    due(learns("half 0"), 0);
    due(learns("half 7+1"), 5);
    due(learns("half 7*2"), 8);
    due(learns("half half 7"), 2);
    due(learns("-half 7"), -4);
    // known
    due(learns("known 0"), 2);
    due(learns("known 1"), 0);
    due(learns("known form"), 1);
    due(learns("known 0+2"), 4);
    due(learns("known (0+2)"), 1);
    due(learns("known 9999"), 0);
    due(learns("known -1"), 0);
    due(learns("known 3"), 0);
    due(learns("known 32"), 0);
    // a million at most, at each step
    due(learns("9999*9999-9999*99-9999-80"), 20);
    due(learns("9999*9999/9999"), 99);
    due(learns("(9999*9999+9999*9999)/9999"), 99);
    due(learns("9999*9999*9999*9999/10000*1"), -1000);
    due(learns("9999*9999/1000/10-50"), 50);
    due(learns("-9999*9999/1000/10+50"), -50);
    due(learns("(0-9999*9999-9999*9999)/1000/10+50"), -50);
    // if, or, and, not
    due(learns("if 1<2 then 3 else 4 end"), 3);
    due(learns("if 2<2 then 3 else 4 end"), 4);
    due(learns("if 2<=2 then 3 else 4 end"), 3);
    due(learns("if 3<=2 then 3 else 4 end"), 4);
    due(learns("if 2>2 then 3 else 4 end"), 4);
    due(learns("if 3>2 then 3 else 4 end"), 3);
    due(learns("if 2>=2 then 3 else 4 end"), 3);
    due(learns("if 1>=2 then 3 else 4 end"), 4);
    due(learns("if 2=2 then 3 else 4 end"), 3);
    due(learns("if 2=1 then 3 else 4 end"), 4);
    due(learns("if 2#2 then 3 else 4 end"), 4);
    due(learns("if 2#1 then 3 else 4 end"), 3);
    due(learns("if not 2#1 then 3 else 4 end"), 4);
    due(learns("if not not 2#1 then 3 else 4 end"), 3);
    due(learns("if 1=1 or 1=2 and 1=2 then 3 else 4 end"), 3);
    due(learns("if 1=2 and 1=2 or 1=1 then 3 else 4 end"), 3);
    due(learns("if 1=2 or 1=2 then 3 else 4 end"), 4);
    due(learns("if not 1=1 or 1=1 then 3 else 4 end"), 3);
    due(learns("if 1=1 and 1=2 then 3 else 4 end"), 4);
    due(learns("1+if 1=1 then 2 else 3 end*2"), 5);
    due(learns("if 1=1 then if 1=2 then 1 else 2 end+1 else 9 end-1"), 2);
    due(learns("if if 1=1 then 0 else 1 end=0 then 7 else 8 end"), 7);
    due(learns("if 1+1*3=4 then 7 else 8 end"), 7);
  }

  private static void isNow() {
    promise = 20;
    PerfectFerried x = shore();
    due(x.is(0), 0);
    due(x.is(1), 271);
    due(x.is(2), 5);
    due(x.is(3), 1);
    due(x.is(4), -2);
    due(x.is(-1), -2);
    x.forget(1, 0);
    due(x.is(2), 5);
    x.forget(1, 2);
    due(x.is(2), 1);
    x.person(0, 2);
    due(x.is(2), 3);
  }

  private static void bookOfTellings() {
    promise = 21;
    PerfectFerried x = shore();
    due(x.book(-1, 0), 0);
    due(x.book(0, 0), -2);
    x.story(9);
    x.year(1);
    x.forget(1, 2);
    x.tell(0, 1);
    x.year(1);
    x.tell(0, 0);
    due(x.book(-1, 0), 2);
    due(x.book(0, 0), 1);
    due(x.book(0, 1), 0);
    due(x.book(0, 2), 1);
    due(x.book(0, 3), 8);
    due(x.book(1, 0), 2);
    due(x.book(1, 2), 0);
    due(x.book(2, 0), -2);
    due(x.book(-2, 0), -2);
    due(x.book(0, 4), -2);
    due(x.book(0, -1), -2);
  }

  private static void foretoldYears() {
    promise = 22;
    PerfectFerried x = shore();
    due(x.foretold(1, 1, 0), 4);
    due(x.foretold(1, 0, 0), 1);
    due(x.foretold(1, 1, 1), 31);
    due(x.foretold(60, 0, 1), 69);
    due(x.foretold(0, 0, 1), -1);
    due(x.foretold(61, 0, 1), -1);
    due(x.foretold(1, 2, 1), -1);
    due(x.foretold(1, -1, 1), -1);
    due(x.foretold(1, 0, 2), -1);
    due(x.foretold(1, 0, -1), -1);
    due(x.is(0), 0);
    due(x.is(1), 271);
    due(x.about(5), 0);
    due(x.of(1, 1), 5);
    int[] behind = {x.foretold(60, 0, 0), x.foretold(60, 1, 0), x.foretold(60, 1, 1)};
    x.year(60);
    due(x.of(0, 1), behind[0]);
    due(x.of(1, 1), behind[1]);
    due(x.of(1, 0), behind[2]);
    // those that can pass
    x = new PerfectFerried();
    for (int i = 0; i < 166; i++) x.year(60);
    x.year(37);
    x.person(7, 0);
    due(x.foretold(60, 0, 1), 9);
    x.year(2);
    due(x.foretold(60, 0, 1), 9);
    due(x.is(0), 9999);
  }

  private static void ordersAndSayings() {
    promise = 23;
    PerfectFerried x = new PerfectFerried();
    int number = 0;
    for (int i = 0; i < 43211; i++) {
      int[] d = {i / 10000, i / 1000 % 10, i / 100 % 10, i / 10 % 10, i % 10};
      int bits = 0;
      for (int one : d) bits |= 1 << one;
      if (bits != 31) continue;
      if (number % 60 == 0) x = new PerfectFerried();
      promise = 23;
      for (int at = 0; at < 5; at++) due(x.order(number, at), d[at]);
      promise = 24;
      due(x.number(d[0], d[1], d[2], d[3], d[4]), number);
      number++;
    }
    promise = 23;
    due(number, 120);
    x = new PerfectFerried();
    due(x.order(-1, 0), -1);
    due(x.order(120, 0), -1);
    due(x.order(0, 5), -1);
    due(x.order(0, -1), -1);
    promise = 24;
    due(x.number(0, 1, 2, 3, 3), -1);
    due(x.number(1, 2, 3, 4, 5), -1);
    due(x.number(-1, 0, 1, 2, 3), -1);
    due(x.number(BIG, LOW, 1, 2, 3), -1);
    promise = 25;
    int o = x.number(3, 1, 4, 0, 2);
    due(x.holds(o, 0, 3, 2), true);
    due(x.holds(o, 0, 2, 3), false);
    due(x.holds(o, 0, 1, 4), true);
    due(x.holds(o, 1, 1, 4), true);
    due(x.holds(o, 1, 4, 1), false);
    due(x.holds(o, 1, 1, 0), false);
    due(x.holds(o, 2, 3, 3), true);
    due(x.holds(o, 2, 1, 1), false);
    due(x.holds(o, 2, 3, 1), false);
    due(x.holds(o, 3, 2, 2), true);
    due(x.holds(o, 3, 3, 3), false);
    due(x.holds(o, 3, 2, 3), false);
    due(x.holds(o, 4, 4, 1), true);
    due(x.holds(o, 4, 1, 4), true);
    due(x.holds(o, 4, 1, 0), false);
    due(x.holds(o, 4, 1, 1), false);
    due(x.holds(o, 0, 1, 1), false);
    due(x.holds(o, 5, 3, 1), false);
    due(x.holds(o, -1, 3, 1), false);
    due(x.holds(o, 0, 3, 5), false);
    due(x.holds(o, 0, -1, 3), false);
    due(x.holds(120, 0, 4, 0), false);
    due(x.holds(-1, 0, 0, 4), false);
    promise = 36;
    due(x.apart(o, o), 0);
    due(x.apart(0, 24), 1);
    due(x.apart(0, 119), 10);
    due(x.apart(o, 0), x.apart(0, o));
    // 3 1 4 0 2: 3 1, 3 0, 3 2, 1 0, 4 0, 4 2
    due(x.apart(o, 0), 6);
    due(x.apart(120, 0), -1);
    due(x.apart(0, -1), -1);
  }

  private static void saidAndCould() {
    promise = 26;
    PerfectFerried x = new PerfectFerried();
    due(x.say(5, 0, 1), -2);
    due(x.say(-2, 0, 1), -2);
    due(x.say(0, 0, 0), -2);
    due(x.say(2, 0, 1), -2);
    due(x.say(4, 0, 5), -2);
    due(x.say(1, -1, 0), -2);
    due(x.about(6), 0);
    for (int i = 1; i <= 8; i++) due(x.say(0, 0, 1), i);
    due(x.say(0, 0, 1), -2);
    due(x.about(6), 8);
    due(x.say(-1, 9, 9), 0);
    due(x.about(6), 0);
    promise = 27;
    due(x.could(-1), 120);
    due(x.could(119), 119);
    due(x.could(120), -2);
    due(x.could(-2), -2);
    x.say(3, 0, 0);
    due(x.could(-1), 24);
    due(x.could(0), x.number(1, 2, 3, 4, 0));
    due(x.could(23), x.number(4, 3, 2, 1, 0));
    x.say(4, 2, 0);
    due(x.could(-1), 6);
    due(x.could(0), x.number(1, 3, 4, 2, 0));
    promise = 28;
    due(x.likely(1, 3, false), 1);
    due(x.likely(1, 3, true), 2);
    due(x.likely(2, 3, false), 0);
    due(x.likely(2, 3, true), 1);
    due(x.likely(3, 2, false), 1);
    due(x.likely(3, 2, true), 1);
    due(x.likely(3, 3, false), -1);
    due(x.likely(3, 3, true), -1);
    due(x.likely(5, 3, false), -1);
    due(x.likely(3, -1, true), -1);
    promise = 29;
    due(x.sure(0), 30);
    due(x.sure(2), 26);
    due(x.sure(1), 0);
    due(x.sure(5), -1);
    due(x.sure(-1), -1);
    promise = 30;
    due(x.ask(), 13);
    x.say(0, 1, 3);
    // 1 3 4, 1 4 3, 4 1 3 are left: 1 ahead of 4 in two, 3 ahead of 4 in one
    due(x.likely(1, 4, false), 2);
    due(x.likely(1, 4, true), 3);
    due(x.ask(), 14);
    x.say(0, 1, 4);
    due(x.ask(), 34);
    x.say(0, 3, 4);
    due(x.could(-1), 1);
    due(x.ask(), -1);
    due(x.sure(4), 10);
    due(x.likely(3, 4, false), 1);
    due(x.likely(4, 3, false), 0);
    due(x.likely(4, 3, true), 1);
    x.say(0, 4, 3);
    due(x.could(-1), 0);
    due(x.could(0), -2);
    promise = 28;
    due(x.likely(0, 1, true), -1);
    promise = 29;
    due(x.sure(0), -1);
    promise = 30;
    due(x.ask(), -1);
    x.say(-1, 0, 0);
    due(x.ask(), 1);
    x.say(0, 0, 1);
    due(x.ask(), 23);
  }

  private static void leastSayings() {
    promise = 31;
    PerfectFerried x = new PerfectFerried();
    int ahead = 1;
    int just = 2;
    int first = 4;
    int last = 8;
    int side = 16;
    int longAhead = 32;
    x.form(0, 3);
    x.form(1, 2);
    x.form(2, 9);
    x.form(3, 1);
    x.form(4, 1);
    x.form(0, 9);
    due(x.least(ahead, 0, false), -1);
    x.story(77);
    x.story(0);
    due(x.least(ahead, 2, false), -1);
    due(x.least(ahead, -1, false), -1);
    due(x.least(64, 0, false), -1);
    due(x.least(-1, 0, true), -1);
    due(x.least(0, 0, false), -1);
    due(x.least(0, 0, true), -1);
    due(x.least(ahead, 0, false), 12);
    due(x.least(longAhead, 0, false), 36);
    due(x.least(longAhead | ahead, 0, false), 12);
    due(x.least(just, 1, false), 8);
    due(x.least(just, 1, true), 4);
    due(x.least(side, 0, false), -1);
    due(x.least(first | last, 0, false), -1);
    due(x.least(side | last, 0, false), 4);
    due(x.least(side | last, 0, true), 4);
    due(x.least(side | first, 0, false), 12);
    // four side by side, then one word more: 4 + 3; two ahead with three side by side would be 9
    due(x.least(side | ahead, 0, false), 7);
    due(x.least(side | ahead, 0, true), 5);
    due(x.least(side | longAhead, 0, true), 5);
    due(x.least(side | just, 0, false), 5);
    due(x.least(ahead | last, 0, false), 10);
    due(x.least(ahead | first, 0, false), 12);
    // as long by fewer SAYINGS: four ahead of LENGTH 2, or one of them and three or four of LENGTH 1 .. 2
    PerfectFerried y = new PerfectFerried();
    y.form(0, 3);
    y.form(4, 2);
    y.story(5);
    due(y.least(3, 0, false), 11);
    due(y.least(3, 0, true), 5);
    PerfectFerried z = new PerfectFerried();
    z.form(0, 4);
    z.form(4, 3);
    z.story(5);
    due(z.least(3, 0, false), 16);
    due(z.least(3, 0, true), 4);
    promise = 32;
    due(x.blurred(0, 0), 120);
    due(x.blurred(first, 0), 24);
    due(x.blurred(last, 1), 24);
    due(x.blurred(first | last, 0), 6);
    due(x.blurred(side, 0), 2);
    due(x.blurred(side | first, 0), 1);
    due(x.blurred(side | last, 0), 1);
    due(x.blurred(ahead, 0), 1);
    due(x.blurred(just, 0), 1);
    due(x.blurred(63, 1), 1);
    due(x.blurred(64, 0), -1);
    due(x.blurred(-1, 0), -1);
    due(x.blurred(0, 2), -1);
    due(x.blurred(0, -1), -1);
    due(new PerfectFerried().blurred(0, 0), -1);
  }

  private static void counsel() {
    promise = 33;
    PerfectFerried x = new PerfectFerried();
    x.form(4, 5);
    x.form(2, 3);
    x.form(3, 3);
    x.person(0, 0);
    x.person(0, 1);
    due(x.cover(0), 0);
    x.story(8);
    due(x.cover(0), 3);
    due(x.cover(1), 2);
    due(x.cover(2), -1);
    due(x.cover(-1), -1);
    x.form(1, 9);
    due(x.cover(0), 8);
    due(x.cover(1), 2);
    x.form(0, 2);
    due(x.cover(1), 16);
    x.form(3, 2);
    due(x.cover(1), 16);
    x.person(0, 16);
    due(x.cover(2), 0);
    // two are needed: of FORMS 0 .. 4 (4, 3, 2, 3, 4) 5 3 2 3 5 long, the shortest together, then the lowest
    PerfectFerried two = new PerfectFerried();
    two.form(4, 5);
    two.form(3, 3);
    two.form(2, 2);
    two.form(3, 2);
    two.form(4, 4);
    two.form(4, 4);
    two.story(0);
    two.person(0, 0);
    due(two.cover(0), 4 + 16);
    two.person(0, 32);
    due(two.cover(1), 4);
    PerfectFerried y = new PerfectFerried();
    y.form(2, 1);
    y.form(3, 1);
    y.story(0);
    y.person(0, 1);
    due(y.cover(0), -1);
    promise = 34;
    due(new PerfectFerried().keep(), 0);
    PerfectFerried k = new PerfectFerried();
    k.form(0, 1);
    k.form(4, 1);
    k.form(2, 1);
    k.person(0, 1);
    due(k.keep(), 0);
    k.story(1);
    due(k.keep(), 1);
    k.person(0, 6);
    due(k.keep(), 0);
    k.forget(0, 0);
    due(k.keep(), 6);
    k.forget(1, 2);
    due(k.keep(), 0);
    k.teach(1, 1, 0);
    due(k.keep(), 0);
    promise = 35;
    PerfectFerried b = new PerfectFerried();
    b.form(4, 2);
    b.form(2, 5);
    b.form(0, 9);
    b.person(0, 1);
    b.person(0, 2);
    b.person(0, 4);
    due(b.both(0, 1, 0), -1);
    b.story(50);
    due(b.both(0, 1, 0), 11);
    due(b.both(1, 0, 0), 11);
    due(b.both(0, 2, 0), 17);
    due(b.both(1, 2, 0), 32);
    due(b.both(0, 0, 0), -1);
    due(b.both(2, 2, 0), 36);
    due(b.both(0, 3, 0), -1);
    due(b.both(-1, 0, 0), -1);
    due(b.both(0, 1, 1), -1);
    due(b.both(0, 1, -1), -1);
    promise = 37;
    PerfectFerried m = new PerfectFerried();
    due(m.middle(), -1);
    m.story(77);
    due(m.middle(), 77);
    m.story(119);
    // both ends are as good, and so is what is between; the lowest
    due(m.middle(), 77);
    m.story(119);
    due(m.middle(), 119);
    m.story(0);
    due(m.middle() >= 0, true);
    promise = 39;
    PerfectFerried h = shore();
    due(h.heirs(0), 0);
    due(h.heirs(1), 0);
    due(h.heirs(2), 1);
    due(h.heirs(3), -1);
    due(h.heirs(-1), -1);
    h.person(1, 0);
    due(h.heirs(2), 5);
    due(h.heirs(0), 4);
    read(h, "learns who;");
    h.by(0);
    due(h.heirs(2), 4);
    h.by(-1);
    h.tell(1, 0);
    h.tell(1, 0);
    h.teach(0, 1, 2);
    due(h.of(1, 2), 2);
    due(h.heirs(2), 0);
    due(h.about(5), 3);
    promise = 44;
    PerfectFerried s = shore();
    due(s.silent(), 0);
    s.person(1, 6);
    due(s.silent(), 0);
    s.person(1, 4);
    s.person(1, 0);
    due(s.silent(), 24);
    s.tell(0, 0);
    s.tell(0, 0);
    due(s.silent(), 24);
    due(new PerfectFerried().silent(), 0);
    PerfectFerried n = new PerfectFerried();
    n.form(0, 1);
    n.person(1, 1);
    due(n.silent(), 1);
  }

  private static void lostForms() {
    promise = 38;
    PerfectFerried x = new PerfectFerried();
    x.form(0, 1);
    x.form(0, 1);
    x.person(25, 1);
    x.person(45, 1);
    x.person(5, 2);
    // 1 of 10 and 2 of 10
    due(x.lost(0, 1, false), 1);
    due(x.lost(0, 1, true), 50);
    // 19 of 100 and 36 of 100
    due(x.lost(0, 2, false), 171);
    due(x.lost(0, 2, true), 2500);
    // 271 of 1000 and 488 of 1000
    due(x.lost(0, 3, false), 16531);
    due(x.lost(0, 3, true), 125000);
    due(x.lost(1, 3, false), 0);
    due(x.lost(1, 3, true), 1);
    x.forget(2, 1);
    due(x.lost(1, 1, false), 1);
    due(x.lost(1, 1, true), 1);
    due(x.lost(0, 0, true), -1);
    due(x.lost(0, 4, true), -1);
    due(x.lost(2, 1, true), -1);
    due(x.lost(-1, 1, false), -1);
    due(x.is(1), 271);
    PerfectFerried y = new PerfectFerried();
    y.form(0, 1);
    for (int i = 0; i < 6; i++) y.person(25, 1);
    due(y.lost(0, 3, true), 1000000000000000000L);
    due(y.lost(0, 3, false), 271L * 271 * 271 * 271 * 271 * 271);
    read(y, "fades 10;");
    y.by(0);
    due(y.lost(0, 3, true), 1);
    due(y.lost(0, 1, false), 1);
  }

  private static void seenAndWhose() {
    promise = 40;
    PerfectFerried x = shore();
    due(x.seen(2, 0), -2);
    due(x.seen(-2, 0), -2);
    due(x.seen(0, 11), -2);
    due(x.seen(0, -1), -2);
    due(x.about(7), 0);
    for (int i = 1; i <= 8; i++) due(x.seen(0, 10), i);
    due(x.seen(0, 10), -2);
    due(x.seen(-1, 99), 0);
    due(x.about(7), 0);
    promise = 41;
    due(x.whose(), 0);
    read(x, "fades 3 - kind;");
    read(x, "fades who + 3;");
    read(x, "year 1;");
    due(x.whose(), 7);
    x.seen(0, 3);
    due(x.whose(), 3);
    x.seen(1, 3);
    due(x.whose(), 1);
    x.seen(-1, 0);
    x.seen(0, 0);
    x.seen(1, 1);
    due(x.whose(), 4);
    x.year(11);
    due(x.whose(), 0);
    x.by(0);
    due(x.whose(), 0);
  }

  private static void richestAndRarest() {
    promise = 42;
    PerfectFerried x = shore();
    due(x.richest(), 1);
    x.teach(2, 1, 0);
    due(x.richest(), 0);
    x.forget(0, 0);
    x.forget(1, 0);
    due(x.richest(), 0);
    x.forget(0, 2);
    due(x.richest(), 1);
    x.forget(1, 2);
    due(x.richest(), -1);
    due(new PerfectFerried().richest(), -1);
    promise = 43;
    due(x.rarest(), -1);
    x = shore();
    due(x.rarest(), 2);
    x.forget(0, 0);
    due(x.rarest(), 0);
    x.forget(1, 0);
    due(x.rarest(), 2);
    due(new PerfectFerried().rarest(), -1);
    PerfectFerried all = new PerfectFerried();
    all.form(0, 1);
    for (int i = 0; i < 6; i++) all.person(1, 1);
    due(all.rarest(), 0);
  }

  private static void ledgers() {
    promise = 45;
    PerfectFerried x = shore();
    due(x.ledger(-1), 0);
    due(x.ledger(0), 0);
    x.tell(0, 0);
    x.tell(1, 0);
    x.tell(0, 0);
    due(x.ledger(0), 16);
    due(x.ledger(1), 8);
    due(x.ledger(-1), 24);
    due(x.ledger(2), -2);
    due(x.ledger(-2), -2);
    // the BOOK has the latest 30 alone
    for (int i = 0; i < 29; i++) {
      x.year(1);
      x.forget(0, 1);
      x.tell(0, 0);
    }
    int sum = 0;
    for (int i = 0; i < x.book(-1, 0); i++) sum += x.book(i, 3);
    due(x.ledger(-1), sum);
  }

  private static void images() {
    promise = 46;
    PerfectFerried x = shore();
    x.year(2);
    x.say(0, 1, 2);
    x.seen(0, 1);
    read(x, "fades 4;");
    x.by(0);
    x.tell(0, 0);
    due(x.image(), 2);
    x.form(0, 1);
    x.person(1, 1);
    x.story(2);
    read(x, "fades 5;");
    x.by(1);
    x.say(0, 1, 3);
    x.seen(0, 2);
    x.tell(0, 0);
    x.year(35);
    read(x, "year 0;");
    x.feed(1, 2, 3, 4, 5);
    promise = 47;
    due(x.back(), 2);
    int[] want = {3, 2, 1, 1, 0, 3, 1, 1, 20};
    for (int what = 0; what <= 8; what++) due(x.about(what), want[what]);
    due(x.fault(0), 2);
    due(x.book(-1, 0), 1);
    due(x.law(0, 0, true), 4);
    due(x.of(0, 0), 11);
    due(x.undo(), 2);
    due(x.undo(), 1);
    due(x.undo(), 0);
    due(x.is(1), 271);
    due(x.of(0, 0), 9);
    // it stays
    due(x.back(), 2);
    due(x.about(5), 3);
    due(x.undo(), 2);
    promise = 46;
    due(x.image(), 2);
    x.year(60);
    due(x.back(), 2);
    due(x.about(5), 2);
    due(x.book(-1, 0), 0);
  }

  /** What is told ahead of BACK stands in the same places as what comes again. */
  private static void imagesInside() {
    promise = 47;
    PerfectFerried x = new PerfectFerried();
    x.form(1, 5);
    x.story(9);
    x.person(33, 1);
    x.say(2, 3, 3);
    x.seen(0, 4);
    read(x, "fades 4;");
    x.by(0);
    x.image();
    x.say(-1, 0, 0);
    x.say(3, 1, 1);
    x.seen(-1, 0);
    x.seen(0, 9);
    x.forget(0, 0);
    due(x.whose(), 0);
    x.back();
    due(x.whose(), 1);
    due(x.could(0), x.number(3, 0, 1, 2, 4));
    due(x.of(0, 1), 1);
    // the first image has nothing: other things are told in the same places, then imaged
    PerfectFerried y = new PerfectFerried();
    y.form(1, 5);
    y.story(9);
    read(y, "fades 4;");
    y.back();
    y.form(2, 7);
    y.story(8);
    read(y, "fades 6;");
    y.image();
    y.back();
    due(y.ofForm(0, 0), 2);
    due(y.ofForm(0, 1), 7);
    due(y.middle(), 8);
    y.person(1, 0);
    y.by(0);
    due(y.law(0, 0, true), 6);
    y.back();
    due(y.about(1), 0);
    due(y.about(4), -1);
  }

  private static void abouts() {
    promise = 48;
    PerfectFerried x = shore();
    due(x.about(0), 3);
    due(x.about(1), 2);
    due(x.about(2), 1);
    due(x.about(3), 0);
    due(x.about(4), -1);
    due(x.about(5), 0);
    read(x, "");
    due(x.about(3), 1);
    x.by(0);
    due(x.about(4), 0);
    x.year(3);
    due(x.about(5), 3);
    x.say(0, 1, 2);
    due(x.about(6), 1);
    x.seen(0, 1);
    x.seen(0, 1);
    due(x.about(7), 2);
    x.feed(0, 0, 0, 0, 0);
    due(x.about(8), 20);
    due(x.about(9), -2);
    due(x.about(-1), -2);
  }
}
