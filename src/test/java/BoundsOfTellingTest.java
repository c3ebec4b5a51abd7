/** The bounds that the document names, sentence by sentence: what is told and read (promises 1 to 9). */
public final class BoundsOfTellingTest extends Checks {
  public static void main(String[] args) {
    newObject();
    forms();
    people();
    stories();
    feeding();
    ending();
    texts();
    tokens();
    clauses();
    faultAsked();
    faultPlaces();
    faultOne();
    faultTwo();
    faultThree();
    faultsFourToSix();
    leastFault();
    ruling();
    finishBounds(1, 9);
  }

  private static void newObject() {
    PerfectFerried x = sentence(1, "Nobody; THE IMAGE is this.");
    due(x.about(1), 0);
    due(x.of(0, 0), -1);
    due(x.silent(), 0);
    due(x.ledger(0), -2);
    due(x.person(0, 0), 0);
    due(x.back(), 0);
    due(x.about(1), 0);

    x = sentence(1, "THE IMAGE is this.");
    String first = state(x);
    fill(x);
    x.by(3);
    x.ages(9999, 40);
    x.year(3);
    due(x.back(), 0);
    due(state(x), first);
    x.year(1);
    due(x.back(), 0);
    due(state(x), first);

    x = sentence(1, "YEAR 0 .. 9999 (at first 0).");
    due(x.is(0), 0);
    due(x.image(), 0);

    x = sentence(1, "X: at first 271.");
    due(x.is(1), 271);
    fill(x);
    x.year(1);
    // an object has nothing of another one
    due(new PerfectFerried().is(1), 271);
    due(state(new PerfectFerried()), first);

    x = sentence(1, "An object is used for at most 512 calls after it has been made");
    for (int call = 1; call <= 510; call++) x.year(19);
    due(x.is(0), 9690);
    due(x.about(5), 30);

    x = sentence(1, "The constants: `NONE = -1`: None.");
    due(PerfectFerried.NONE, -1);
    due(x.richest(), PerfectFerried.NONE);
  }

  private static void forms() {
    PerfectFerried x = sentence(2, "FORMS 0 .. 7 (told one by one)");
    for (int i = 0; i < 8; i++) {
      due(x.ofForm(i, 0), -1);
      due(x.form(4, 1), i);
      due(x.ofForm(i, 0), 4);
      due(x.about(0), i + 1);
    }
    due(x.form(4, 1), -1);
    due(x.ofForm(8, 0), -1);

    x = sentence(2, "KIND 0 .. 4");
    due(x.form(-1, 1), -1);
    due(x.form(0, 1), 0);
    due(x.form(4, 1), 1);
    due(x.form(5, 1), -1);
    due(x.form(LOW, 1), -1);
    due(x.form(BIG, 1), -1);
    due(x.ofForm(0, 0), 0);
    due(x.ofForm(1, 0), 4);

    x = sentence(2, "LENGTH 1 .. 9");
    due(x.form(0, 0), -1);
    due(x.form(0, 1), 0);
    due(x.form(0, 9), 1);
    due(x.form(0, 10), -1);
    due(x.form(0, -1), -1);
    due(x.form(0, LOW), -1);
    due(x.form(0, BIG), -1);
    due(x.ofForm(0, 1), 1);
    due(x.ofForm(1, 1), 9);

    x = sentence(2, "NONE for others, or if there are 8.");
    due(x.form(5, 1), -1);
    due(x.form(0, 10), -1);
    due(x.about(0), 0);
    for (int i = 0; i < 7; i++) x.form(i % 5, i + 1);
    due(x.form(5, 8), -1);
    due(x.about(0), 7);
    due(x.form(2, 8), 7);
    due(x.form(2, 8), -1);
    due(x.form(5, 8), -1);
    due(x.about(0), 8);
    for (int i = 0; i < 8; i++) {
      due(x.ofForm(i, 0), i % 5);
      due(x.ofForm(i, 1), i + 1);
    }
  }

  private static void people() {
    PerfectFerried x = sentence(3, "PEOPLE 0 .. 5 (told one by one)");
    for (int i = 0; i < 6; i++) {
      due(x.of(i, 0), -1);
      due(x.person(i, 0), i);
      due(x.of(i, 0), i);
    }
    due(x.person(6, 0), -1);
    due(x.of(6, 0), -1);

    x = sentence(3, "AGE 0 .. 99");
    due(x.person(-1, 0), -1);
    due(x.person(0, 0), 0);
    due(x.person(99, 0), 1);
    due(x.person(100, 0), -1);
    due(x.person(LOW, 0), -1);
    due(x.person(BIG, 0), -1);
    due(x.of(0, 0), 0);
    due(x.of(1, 0), 99);

    x = sentence(3, "BREATH 0 .. 99 (at first 20)");
    x.person(0, 0);
    x.person(99, 0);
    due(x.of(0, 2), 20);
    due(x.of(1, 2), 20);

    x = sentence(3, "NONE for others (FORMS not told), or if there are 6.");
    due(x.person(1, 1), -1);
    due(x.person(1, -1), -1);
    due(x.person(1, 0), 0);
    for (int forms = 1; forms <= 8; forms++) {
      if (forms == 5) x = new PerfectFerried();
      while (x.about(0) < forms) x.form(0, 1);
      int many = x.about(1);
      due(x.person(1, 1 << forms), -1);
      due(x.person(1, (1 << forms) - 1), many);
      due(x.of(many, 1), (1 << forms) - 1);
    }
    due(x.person(1, 511), -1);
    due(x.person(1, LOW), -1);
    due(x.person(1, BIG), -1);
    due(x.person(1, LOW + 1), -1);
    due(x.about(1), 4);
    due(x.person(1, 128), 4);
    due(x.person(1, 0), 5);
    due(x.person(1, 0), -1);
    due(x.person(1, 256), -1);
    due(x.about(1), 6);

    x = sentence(3, "FORMS each knows (as told)");
    x.form(0, 1);
    x.form(0, 1);
    x.person(1, 2);
    x.form(0, 1);
    due(x.of(0, 1), 2);
    due(x.ofForm(2, 2), 0);
  }

  private static void stories() {
    PerfectFerried x = sentence(4, "STORIES 0 .. 3 (told one by one): an ORDER.");
    for (int i = 0; i < 4; i++) {
      due(x.story(0), i);
      due(x.about(2), i + 1);
    }
    due(x.story(0), -1);
    due(x.about(2), 4);

    x = sentence(4, "ORDERS 0 .. 119");
    due(x.story(-1), -1);
    due(x.story(120), -1);
    due(x.story(LOW), -1);
    due(x.story(BIG), -1);
    due(x.about(2), 0);
    due(x.story(119), 0);
    due(x.middle(), 119);
    due(x.story(0), 1);
    due(x.middle(), 0);

    x = sentence(4, "NONE for others, or if there are 4.");
    x.story(119);
    x.story(119);
    x.story(119);
    due(x.story(120), -1);
    due(x.about(2), 3);
    due(x.story(119), 3);
    due(x.story(0), -1);
    due(x.story(-1), -1);
    due(x.about(2), 4);
    due(x.middle(), 119);
  }

  private static void feeding() {
    PerfectFerried x = sentence(5, "Twenty bytes come behind the tape, the highest of a first: how many it has.");
    // "stor" "y 11" "9;st" "ory " "118;": each byte has its place
    due(x.feed(0x73746f72, 0x79203131, 0x393b7374, 0x6f727920, 0x3131383b), 20);
    due(x.feed(0x73746f72, 0x79203131, 0x373b7374, 0x6f727920, 0x3131363b), 40);
    due(x.text(), 0);
    due(x.played(0), -1);
    due(x.about(2), 4);
    // bytes above 127 are bytes, too
    due(x.feed(0x20202020, 0x2020ff20, -1, LOW, 0x80808080), 20);
    due(x.text(), -1);
    due(x.fault(0), 1);
    due(x.fault(1), 6);
    due(x.feed(0x202020ff, 0, 0, 0, 0), 20);
    x.text();
    due(x.fault(1), 3);
    due(x.feed(0x20202020, 0x20202020, 0x20202020, 0x20202020, 0x202020ff), 20);
    x.text();
    due(x.fault(1), 19);

    x = sentence(5, "NONE, and none come, if there would be more than 300.");
    for (int i = 1; i <= 14; i++) due(x.feed(0, 0, 0, 0, 0), 20 * i);
    due(x.feed(1, 1, 1, 1, 1), 300);
    due(x.feed(1, 1, 1, 1, 1), -1);
    due(x.about(8), 300);
    due(x.end(281), 281);
    due(x.feed(0, 0, 0, 0, 0), -1);
    due(x.about(8), 281);
    due(x.end(280), 280);
    due(x.feed(0, 0, 0, 0, 0), 300);
    x.end(299);
    due(x.feed(0, 0, 0, 0, 0), -1);
    due(x.about(8), 299);
    // none of what was refused is there
    put(x, " ".repeat(274) + "year 60");
    due(x.feed(0x3b202020, 0x20202020, 0x20202020, 0x20202020, 0x20202020), -1);
    due(x.text(), -1);
    due(x.fault(0), 1);
    due(x.fault(1), 281);
  }

  private static void ending() {
    PerfectFerried x = sentence(6, "The tape has its first n bytes alone: n.");
    due(x.end(0), 0);
    put(x, "year 60;");
    due(x.end(8), 8);
    due(x.end(6), 6);
    due(x.about(8), 6);
    x.text();
    due(x.fault(0), 1);
    due(x.fault(1), 6);
    put(x, "year 60;");
    x.end(6);
    // "; " comes behind the first six
    due(x.feed(0x3b202020, 0x20202020, 0x20202020, 0x20202020, 0x20202020), 26);
    due(x.text(), 0);
    due(x.played(0), -1);
    due(x.is(0), 6);
    put(x, "nothing");
    due(x.end(0), 0);
    due(x.text(), 1);

    x = sentence(6, "NONE, and nothing is done, if it has not so many, or n is below 0.");
    due(x.end(1), -1);
    due(x.end(-1), -1);
    x.feed(0, 0, 0, 0, 0);
    due(x.end(21), -1);
    due(x.end(-1), -1);
    due(x.end(LOW), -1);
    due(x.end(BIG), -1);
    due(x.about(8), 20);
    due(x.end(19), 19);
    due(x.end(20), -1);
    due(x.about(8), 19);
    for (int i = 0; i < 14; i++) x.feed(0, 0, 0, 0, 0);
    x.end(280);
    due(x.feed(0, 0, 0, 0, 0), 300);
    due(x.end(301), -1);
    due(x.end(300), 300);
    due(x.about(8), 300);
  }

  private static void texts() {
    PerfectFerried x = sentence(7, "The tape (empty then) is a TEXT: its number.");
    for (int i = 0; i < 4; i++) {
      put(x, "year 1;");
      due(x.text(), i);
      due(x.about(8), 0);
    }
    due(x.about(3), 4);
    due(x.fault(0), 0);

    x = sentence(7, "{CLAUSE}, 24 at most");
    // none at all is a TEXT, too
    due(x.text(), 0);
    due(read(x, " \n"), 1);
    due(x.played(1), -1);
    due(read(x, "year 1;".repeat(24)), 2);
    due(x.played(2), -1);
    due(x.is(0), 24);
    due(read(x, "year 1;".repeat(25)), -1);
    due(x.fault(0), 6);
    due(faultOf("fades 1;learns 1;" + "year 1;".repeat(22)), GOOD);
    due(faultOf("year 1;".repeat(22) + "fades 1;learns 1;"), GOOD);
    due(faultOf("year 1;".repeat(23) + "fades 1;learns 1;"), 1696);

    x = sentence(7, "NONE: it has a FAULT");
    due(read(x, "year 61;"), -1);
    due(x.about(3), 0);
    due(x.about(8), 0);
    due(x.by(0), false);
    due(read(x, "year 60;"), 0);
    due(x.about(3), 1);

    x = sentence(7, "or (the tape stays) there are 4");
    for (int i = 0; i < 3; i++) read(x, "");
    x.image();
    due(read(x, "year 1;"), 3);
    due(read(x, "year 2;"), -1);
    due(x.about(8), 7);
    due(x.about(3), 4);
    due(x.text(), -1);
    due(x.about(8), 7);
    x.played(3);
    due(x.is(0), 1);
    // what stayed can be read, when there is room again
    x.back();
    due(x.about(8), 7);
    due(x.text(), 3);
    x.played(3);
    due(x.is(0), 2);

    x = sentence(7, "TEXTS 0 .. 3: of up to 300 bytes");
    due(read(x, " ".repeat(293) + "year 7;"), 0);
    due(x.played(0), -1);
    due(x.is(0), 7);
    x.form(0, 1);
    x.person(0, 1);
    // a law that takes all 300
    due(read(x, "learns 99" + "-1".repeat(145) + ";"), 1);
    x.by(1);
    due(x.law(0, 0, false), 99 - 145);
    due(read(x, "fades 1" + "*1".repeat(146) + ";"), 2);
    x.by(2);
    due(x.law(0, 0, true), 1);
    due(read(x, "fades 1" + "+0".repeat(142) + "+0000009;"), 3);
    x.by(3);
    due(x.law(0, 0, true), 10);
  }

  private static void tokens() {
    sentence(7, "blanks (32, 10) aside");
    for (int sign = 0; sign < 256; sign++) {
      int fault = 41;
      if (sign == 32 || sign == 10) fault = GOOD;
      // a digit: 1 to 60 is a NUMBER of YEARS
      if (sign >= '0' && sign <= '9') fault = sign <= '5' ? GOOD : 42;
      // a letter: with year it is one TOKEN, that is none
      if (sign >= 'a' && sign <= 'z' || sign >= 'A' && sign <= 'Z') fault = 1;
      due(faultOf("year" + (char) sign + "1;"), fault);
    }
    due(faultOf("\n \n"), GOOD);
    due(faultOf("\t"), 1);
    due(faultOf("\r"), 1);

    sentence(7, "letters a .. z, A .. Z one behind the other (one TOKEN)");
    due(faultOf("fades kind;"), GOOD);
    due(faultOf("fades kinda;"), 61);
    due(faultOf("fades kindz;"), 61);
    due(faultOf("fades kindA;"), 61);
    due(faultOf("fades kindZ;"), 61);
    due(faultOf("fades kind`;"), 101);
    due(faultOf("fades kind{;"), 101);
    due(faultOf("fades kind@;"), 101);
    due(faultOf("fades kind[;"), 101);
    due(faultOf("fades ki nd;"), 61);
    due(faultOf("fades Kind;"), 61);
    due(faultOf("FADES 1;"), 1);
    due(faultOf("fadeskind;"), 1);
    due(faultOf("fades kindkindkindkind;"), 61);
    due(faultOf("fades breathe;"), 61);
    due(faultOf("learns breathe;"), 71);
    due(faultOf("learns breat;"), 71);
    due(faultOf("fades" + "s".repeat(295)), 1);

    sentence(7, "digits likewise (NUMBERS, 0 .. 9999)");
    due(faultOf("fades 0;"), GOOD);
    due(faultOf("fades 9999;"), GOOD);
    due(faultOf("fades 10000;"), 62);
    due(faultOf("fades 00009999;"), GOOD);
    due(faultOf("fades 00010000;"), 62);
    due(faultOf("fades 2147483648;"), 62);
    due(faultOf("fades 4294967296;"), 62);
    due(faultOf("fades 18446744073709551617;"), 62);
    due(faultOf("fades " + "0".repeat(292) + "1;"), GOOD);
    due(faultOf("fades " + "9".repeat(294)), 62);
    due(faultOf("fades 9 9;"), 81);
    due(faultOf("fades 9:9;"), 71);
    due(faultOf("fades 9.9;"), 71);
    due(faultOf("fades 9/9;"), GOOD);
    due(faultOf("year1;"), GOOD);
    due(faultOf("year 1year 1;"), 61);
    due(learns("0099"), 99);
    due(learns("9999-9900"), 99);

    sentence(7, "<= >= < > = # + - * / ( ) ; (the longest)");
    due(learns("if 1<=1 then 1 else 2 end"), 1);
    due(learns("if 1>=1 then 1 else 2 end"), 1);
    due(faultOf("fades if 1< =1 then 1 else 2 end;"), 121);
    due(faultOf("fades if 1> =1 then 1 else 2 end;"), 121);
    due(faultOf("fades if 1=<1 then 1 else 2 end;"), 111);
    due(faultOf("fades if 1=>1 then 1 else 2 end;"), 111);
    due(faultOf("fades if 1<>1 then 1 else 2 end;"), 111);
    due(faultOf("fades if 1<==1 then 1 else 2 end;"), 121);
    due(faultOf("fades if 1==1 then 1 else 2 end;"), 111);
    due(faultOf("fades if 1##1 then 1 else 2 end;"), 111);
    due(faultOf("fades if 1<"), 111);
    due(faultOf(" ".repeat(289) + "fades if 1<"), 3001);
    due(faultOf("fades 1;;"), 81);
  }

  private static void clauses() {
    sentence(7, "fades SUM ; or learns SUM ; (each once)");
    due(faultOf("fades 1;learns 1;"), GOOD);
    due(faultOf("learns 1;fades 1;"), GOOD);
    due(faultOf("fades 1;fades 1;"), 84);
    due(faultOf("learns 1;learns 1;"), 94);
    due(faultOf("fades;"), 51);
    due(faultOf("fades 1 = 1;"), 81);

    sentence(7, "SUM: PRODUCT {+ or - PRODUCT}. PRODUCT: ONE {* or / ONE}.");
    due(faultOf("fades 1+1-1*1/1;"), GOOD);
    due(faultOf("fades +1;"), 61);
    due(faultOf("fades *1;"), 61);
    due(faultOf("fades 1+;"), 81);
    due(faultOf("fades 1-;"), 81);
    due(faultOf("fades 1*;"), 81);
    due(faultOf("fades 1/;"), 81);
    due(faultOf("fades 1++1;"), 81);
    due(faultOf("fades 1--1;"), GOOD);
    due(faultOf("fades 1*-1;"), GOOD);
    due(faultOf("fades ();"), 71);
    due(faultOf("fades (1));"), 91);

    sentence(7, "EITHER: BOTH {or BOTH}. BOTH: ASK {and ASK}.");
    due(faultOf("fades if 1=1 or 1=1 and 1=1 or 1=1 then 1 else 1 end;"), GOOD);
    due(faultOf("fades if 1=1 or then 1 else 1 end;"), 161);
    due(faultOf("fades if 1=1 and or 1=1 then 1 else 1 end;"), 171);
    due(faultOf("fades if or 1=1 then 1 else 1 end;"), 91);
    due(faultOf("fades if (1=1) then 1 else 1 end;"), 111);
    due(faultOf("fades if 1 then 1 else 1 end;"), 111);
    due(faultOf("fades if 1=1=1 then 1 else 1 end;"), 121);
    due(faultOf("fades if not 1 then 1 else 1 end;"), 151);
    due(faultOf("fades if not then 1 else 1 end;"), 131);
    due(faultOf("fades if 1=not 1 then 1 else 1 end;"), 111);

    sentence(7, "NAMES: year, form (its number), kind, length, age, who (the PERSON), knows (how many FORMS it knows) in both; breath in learns.");
    for (String name : new String[] {"year", "form", "kind", "length", "age", "who", "knows"}) {
      due(faultOf("fades " + name + ";"), GOOD);
      due(faultOf("learns " + name + ";"), GOOD);
    }
    due(faultOf("fades breath;"), 65);
    due(faultOf("learns breath;"), GOOD);
    for (String word : new String[] {"fades", "learns", "person", "story", "teach", "by", "to", "forget", "tell", "then", "else", "end", "or", "and", "not"}) {
      due(faultOf("fades " + word + ";"), 61);
    }
  }

  private static void faultAsked() {
    PerfectFerried x = sentence(8, "NONE for others, and ahead of any.");
    due(x.fault(0), -1);
    due(x.fault(1), -1);
    due(x.fault(2), -1);
    put(x, "year 61;");
    due(x.fault(0), -1);
    x.text();
    due(x.fault(-1), -1);
    due(x.fault(0), 2);
    due(x.fault(1), 5);
    due(x.fault(2), -1);
    due(x.fault(LOW), -1);
    due(x.fault(BIG), -1);

    x = sentence(8, "0 its FAULT (0 without), 1 its place (NONE without)");
    x.text();
    due(x.fault(0), 0);
    due(x.fault(1), -1);
    due(x.fault(2), -1);
    read(x, ";");
    due(x.fault(0), 1);
    due(x.fault(1), 0);

    x = sentence(8, "Of the latest text that was read");
    read(x, "year 61;");
    read(x, "tell 4");
    due(x.fault(0), 2);
    due(x.fault(1), 5);
    read(x, "year 1");
    due(x.fault(0), 1);
    due(x.fault(1), 6);
    for (int i = 0; i < 4; i++) read(x, "");
    due(x.fault(0), 0);
    due(x.fault(1), -1);
    // with four TEXTS none is read
    read(x, "year 61;");
    due(x.fault(0), 0);
    due(x.fault(1), -1);

    x = sentence(8, "AN IMAGE: all as it is, but the tape and the latest FAULT.");
    x.image();
    read(x, "year 61;");
    x.back();
    due(x.fault(0), 2);
    due(x.fault(1), 5);
    x.image();
    read(x, "");
    x.back();
    due(x.fault(0), 0);
    due(x.fault(1), -1);
  }

  private static void faultPlaces() {
    sentence(8, "the first as TOKENS are come to");
    due(faultOf("year 61; year ; story 120; who"), 52);
    due(faultOf("year ; story 120; who"), 51);
    due(faultOf("fades breath + 10000;"), 65);
    due(faultOf("fades 10000 + breath;"), 62);
    due(faultOf("form 5 length 10;"), 52);
    due(faultOf("teach 8 by 6 to 6;"), 62);
    due(faultOf("teach 7 by 6 to 6;"), 112);
    due(faultOf("fades 1; fades (((((((((1"), 94);

    sentence(8, "at the TOKEN's first byte (of the end at the length)");
    due(faultOf("   years 1;"), 31);
    due(faultOf("\n\nyear\n100;"), 72);
    due(faultOf("year"), 41);
    due(faultOf("year "), 51);
    due(faultOf("year \n \n"), 81);
    due(faultOf("year 1"), 61);
    due(faultOf("year 1 "), 71);
    due(faultOf("year 100"), 52);
    due(faultOf("year 1" + " ".repeat(294)), 3001);
    due(faultOf(" ".repeat(294) + "year 1"), 3001);
    due(faultOf(" ".repeat(299) + "$"), 2991);
    due(faultOf(" ".repeat(295) + "years"), 2951);
  }

  private static void faultOne() {
    sentence(8, "1 it can't stand there, or is none.");
    String[][] good = {
      {"fades", "1", ";"},
      {"form", "1", "length", "2", ";"},
      {"person", "1", "knows", "0", ";"},
      {"story", "1", ";"},
      {"teach", "1", "by", "0", "to", "1", ";"},
      {"forget", "1", "by", "0", ";"},
      {"tell", "1", "by", "0", ";"},
      {"year", "1", ";"},
      {"learns", "if", "not", "1", "<=", "(", "2", "+", "age", ")", "and", "3", "#", "-", "4", "or", "half", "5", ">", "known", "0",
        "then", "6", "*", "7", "else", "8", "/", "9", "end", ";"},
    };
    for (String[] clause : good) {
      StringBuilder text = new StringBuilder();
      for (int i = 0; i < clause.length; i++) {
        // the end, and what is no TOKEN or never stands in a CLAUSE, in place of each TOKEN
        if (i > 0) due(faultOf(text.toString()), text.length() * 10 + 1);
        due(faultOf(text + "$;"), text.length() * 10 + 1);
        due(faultOf(text + "fadesx 1;"), text.length() * 10 + 1);
        text.append(clause[i]).append(' ');
      }
      due(faultOf(text.toString()), GOOD);
    }
    // where a NUMBER is due no SUM stands, and no NAME
    due(faultOf("year (1);"), 51);
    due(faultOf("year -1;"), 51);
    due(faultOf("year 1+1;"), 61);
    due(faultOf("story age;"), 61);
    due(faultOf("form 1 length -1;"), 141);
    due(faultOf("year 1 1;"), 71);
    due(faultOf("learns 1 then;"), 91);
    due(faultOf("forget 1 to 0;"), 91);
    due(faultOf("teach 1 by 0;"), 121);
    due(faultOf("tell 1 by 0 to 1;"), 121);
    due(faultOf("fades not 1=1;"), 61);
    due(faultOf("1;"), 1);
  }

  /** A NUMBER at both ends, and beyond them. */
  private static void ends(String ahead, int low, int high, String behind) {
    int place = ahead.length() * 10;
    due(faultOf(ahead + low + behind), GOOD);
    due(faultOf(ahead + high + behind), GOOD);
    due(faultOf(ahead + (high + 1) + behind), place + 2);
    due(faultOf(ahead + 10000 + behind), place + 2);
    due(faultOf(ahead + "99999999999" + behind), place + 2);
    if (low > 0) due(faultOf(ahead + (low - 1) + behind), place + 2);
    due(faultOf(ahead + "-" + high + behind), place + 1);
  }

  private static void faultTwo() {
    sentence(8, "2 a NUMBER that isn't one of those told (above 9999;");
    due(faultOf("fades 9999;"), GOOD);
    due(faultOf("fades 10000;"), 62);
    due(faultOf("learns if 1 = 10000 then 1 else 2 end;"), 142);
    sentence(8, "KINDS 0 .. 4");
    ends("form ", 0, 4, " length 1;");
    sentence(8, "LENGTH 1 .. 9");
    ends("form 0 length ", 1, 9, ";");
    sentence(8, "AGE 0 .. 99");
    ends("person ", 0, 99, " knows 0;");
    sentence(8, "knows 0 .. 255");
    ends("person 0 knows ", 0, 255, ";");
    sentence(8, "ORDERS 0 .. 119");
    ends("story ", 0, 119, ";");
    sentence(8, "FORMS 0 .. 7");
    ends("teach ", 0, 7, " by 0 to 1;");
    ends("forget ", 0, 7, " by 0;");
    sentence(8, "PEOPLE 0 .. 5");
    ends("teach 0 by ", 0, 5, " to 1;");
    ends("teach 0 by 0 to ", 0, 5, ";");
    ends("forget 0 by ", 0, 5, ";");
    ends("tell 0 by ", 0, 5, ";");
    sentence(8, "STORIES 0 .. 3");
    ends("tell ", 0, 3, " by 0;");
    sentence(8, "YEARS 1 .. 60");
    ends("year ", 1, 60, ";");
  }

  private static void faultThree() {
    sentence(8, "3 the 9th of ( not half known if and - (of one ONE) that are open around one another (at it).");
    String seven = "-".repeat(7);
    String eight = "-".repeat(8);
    for (String opener : new String[] {"(1)", "half 1", "known 1", "if 1=1 then 1 else 1 end", "-1"}) {
      due(faultOf("fades " + seven + opener + ";"), GOOD);
      due(faultOf("fades " + eight + opener + ";"), 143);
      due(faultOf("learns 2*" + seven + opener + ";"), GOOD);
      due(faultOf("learns 2*" + eight + opener + ";"), 173);
    }
    // each of them counts as one that is open
    due(faultOf("fades ((((((((1))))))));"), GOOD);
    due(faultOf("fades ((((((((-1))))))));"), 143);
    due(faultOf("fades " + "half ".repeat(8) + "1;"), GOOD);
    due(faultOf("fades " + "half ".repeat(8) + "(1);"), 463);
    due(faultOf("fades " + "known ".repeat(8) + "1;"), GOOD);
    due(faultOf("fades " + "known ".repeat(8) + "(1);"), 543);
    String ifs = "if 1=";
    String ends = " then 1 else 1 end";
    due(faultOf("fades " + ifs.repeat(8) + "1" + ends.repeat(8) + ";"), GOOD);
    due(faultOf("fades " + ifs.repeat(8) + "-1" + ends.repeat(8) + ";"), 463);
    due(faultOf("fades if " + "not ".repeat(7) + "1=1" + ends + ";"), GOOD);
    due(faultOf("fades if " + "not ".repeat(8) + "1=1" + ends + ";"), 373);
    due(faultOf("fades if " + "not ".repeat(7) + "(1)=1" + ends + ";"), 373);
    due(faultOf("fades if " + "not ".repeat(7) + "1=(1)" + ends + ";"), 393);
    due(faultOf("fades if " + "not ".repeat(6) + "1=(1)" + ends + ";"), GOOD);
    // if is open in what is asked, behind then and behind else
    due(faultOf("fades if 1=1 then " + eight + "1 else 1 end;"), 253);
    due(faultOf("fades if 1=1 then " + seven + "1 else 1 end;"), GOOD);
    due(faultOf("fades if 1=1 then 1 else " + eight + "1 end;"), 323);
    due(faultOf("fades if 1=1 then 1 else " + seven + "1 end;"), GOOD);
    due(faultOf("fades if 1=1 or 1=" + eight + "1 then 1 else 1 end;"), 253);
    due(faultOf("fades if 1=1 and 1=" + seven + "1 then 1 else 1 end;"), GOOD);

    sentence(8, "that are open around one another");
    // side by side, they aren't open around one another
    due(faultOf("fades (1)+(1)+(1)+(1)+(1)+(1)+(1)+(1)+(1)+(1);"), GOOD);
    due(faultOf("fades " + "-1*".repeat(12) + "1;"), GOOD);
    due(faultOf("fades " + "half 1+".repeat(12) + "known 1;"), GOOD);
    due(faultOf("fades " + "if 1=1 then 1 else 1 end+".repeat(9) + "1;"), GOOD);
    due(faultOf("fades if " + "not 1=1 and ".repeat(9) + "not 1=1" + ends + ";"), GOOD);
    due(faultOf("fades if " + "not 1=1 or ".repeat(9) + "not 1=1" + ends + ";"), GOOD);
    due(faultOf("fades ((((((((1))))))))+((((((((1))))))));"), GOOD);
    due(faultOf("fades ((((((((1))))))))+(((((((((1)))))))));"), 323);
    due(faultOf("fades (((((((" + "(1)+(1)*(1)" + ")))))));"), GOOD);
    due(faultOf("fades (((((((" + "(1)+(-1)" + ")))))));"), 183);
    due(faultOf("fades if not not 1=1 and not not 1=1 then " + seven + "1 else " + seven + "1 end;"), GOOD);
    due(faultOf("fades 1;learns ((((((((1))))))));"), GOOD);
    // - of two isn't one of these
    due(faultOf("fades 1-" + eight + "1;"), GOOD);
    due(faultOf("fades 1-" + eight + "-1;"), 163);
    due(faultOf("fades ((((((((1-1-1))))))));"), GOOD);
    due(faultOf("fades ((((((((1--1))))))));"), 163);
  }

  private static void faultsFourToSix() {
    sentence(8, "4 fades, learns for the second time (at it).");
    due(faultOf("fades 1; learns 1; "), GOOD);
    due(faultOf("fades 1; learns 1; fades 1;"), 194);
    due(faultOf("fades 1; learns 1; learns 1;"), 194);
    due(faultOf("learns 1; year 1; learns"), 184);
    due(faultOf("fades 1; fades"), 94);
    due(faultOf("fades 1; fades breath"), 94);

    sentence(8, "5 a NAME that isn't of that CLAUSE (at it).");
    due(faultOf("learns breath;"), GOOD);
    due(faultOf("fades breath;"), 65);
    due(faultOf("fades 1 + breath;"), 105);
    due(faultOf("fades known breath;"), 125);
    due(faultOf("fades if breath = 1 then 1 else 1 end;"), 95);
    due(faultOf("fades if 1 = 1 then 1 else breath end;"), 275);
    due(faultOf("learns breath; fades breath;"), 215);
    due(faultOf("fades 1; learns breath;"), GOOD);
    due(faultOf("fades ((((((((breath))))))));"), 145);

    sentence(8, "6 the 25th CLAUSE (at its first TOKEN).");
    String many = "story 1;".repeat(24);
    due(faultOf(many), GOOD);
    due(faultOf(many + "\n "), GOOD);
    for (String word : new String[] {"fades 1;", "learns 1;", "form 0 length 1;", "person 0 knows 0;", "story 1;", "teach 0 by 0 to 1;",
        "forget 0 by 0;", "tell 0 by 0;", "year 1;", "year", "year 61;", "fades"}) {
      due(faultOf(many + word), 1926);
      due(faultOf(many + "\n " + word), 1946);
      due(faultOf("story 1;".repeat(23) + word), word.endsWith(" 1;") || word.contains("0") ? GOOD : word.equals("year 61;") ? 1892 : (184 + word.length()) * 10 + 1);
    }
    due(faultOf("story 1;".repeat(26)), 1926);
  }

  private static void leastFault() {
    sentence(8, "of one the least");
    String many = "fades 1;learns 1;" + "year 1;".repeat(22);
    int end = many.length() * 10;
    // 1 and 6; 4 and 6
    due(faultOf(many + "who 1;"), end + 1);
    due(faultOf(many + "$"), end + 1);
    due(faultOf(many + ";"), end + 1);
    due(faultOf(many + "10000;"), end + 1);
    due(faultOf(many + "fades 1;"), end + 4);
    due(faultOf(many + "learns 1;"), end + 4);
    due(faultOf(many + "year 1;"), end + 6);
    // 1 and 2
    due(faultOf("year 1 10000;"), 71);
    due(faultOf("fades 1 10000;"), 81);
    due(faultOf("10000;"), 1);
    // 1 and 3
    due(faultOf("fades ((((((((1(1"), 151);
    due(faultOf("fades ((((((((not 1"), 141);
    due(faultOf("fades ((((((((1 if"), 161);
    // 1 and 4
    due(faultOf("fades 1 fades 1;"), 81);
    due(faultOf("fades fades;"), 61);
    // 1 and 5
    due(faultOf("fades 1 breath;"), 81);
    due(faultOf("form breath;"), 51);
    due(faultOf("breath;"), 1);
  }

  private static void ruling() {
    PerfectFerried x = sentence(9, "THE TEXT (NONE: none): true.");
    due(x.by(-1), true);
    due(x.about(4), -1);
    fill(x);
    due(x.by(0), true);
    due(x.about(4), 0);
    due(x.by(3), true);
    due(x.about(4), 3);
    due(x.law(0, 0, true), 3);
    due(x.by(-1), true);
    due(x.about(4), -1);
    due(x.law(0, 0, true), 0);

    x = sentence(9, "False for others.");
    due(x.by(0), false);
    due(x.by(-2), false);
    read(x, "");
    due(x.by(1), false);
    due(x.about(4), -1);
    due(x.by(0), true);
    read(x, "");
    read(x, "");
    read(x, "");
    due(x.by(4), false);
    due(x.by(-2), false);
    due(x.by(LOW), false);
    due(x.by(BIG), false);
    due(x.about(4), 0);
    due(x.by(3), true);

    x = sentence(9, "THE TEXT (told; at first none) rules.");
    due(x.about(4), -1);
    x.form(0, 1);
    x.person(40, 1);
    read(x, "fades 7;learns 8;");
    due(x.about(4), -1);
    due(x.law(0, 0, true), 2);
    due(x.law(0, 0, false), 1);
    x.by(0);
    due(x.law(0, 0, true), 7);
    due(x.law(0, 0, false), 8);
  }
}
