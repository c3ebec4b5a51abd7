import com.sun.management.ThreadMXBean;
import java.lang.management.ManagementFactory;

/**
 * All calls of a run live in one room: an object is made of few parts, and no call makes any but text,
 * and that one three. The objects of this test are full, so that the calls are as dear as they can be.
 */
public final class RoomTest extends Checks {
  private static final int CALLS = 100;
  /** What the machine itself may take now and then. */
  private static final long SLACK = 2000;
  /** Three objects with at most 300 bytes of code and 24 CLAUSES of four. */
  private static final long TEXT = 3 * 24 + (300 + 96 + 8) * 4;
  private static final long OBJECT = 60000;

  private interface Call {
    void on(PerfectFerried x, int i);
  }

  private static final ThreadMXBean THREADS = (ThreadMXBean) ManagementFactory.getThreadMXBean();

  private static long taken() {
    return THREADS.getThreadAllocatedBytes(Thread.currentThread().getId());
  }

  private static PerfectFerried full() {
    PerfectFerried x = new PerfectFerried();
    fill(x);
    x.by(3);
    x.image();
    return x;
  }

  /** The least of three tries: the first ones pay for what the machine loads. */
  private static void most(String name, long most, Call call) {
    long least = Long.MAX_VALUE;
    for (int again = 0; again < 3; again++) {
      PerfectFerried x = full();
      long ahead = taken();
      for (int i = 0; i < CALLS; i++) call.on(x, i);
      least = Math.min(least, taken() - ahead);
    }
    if (least > most * CALLS + SLACK) System.out.println(name + " takes " + least + " bytes in " + CALLS + " calls");
    due(least <= most * CALLS + SLACK, true);
  }

  public static void main(String[] args) {
    most("new", OBJECT, (x, i) -> new PerfectFerried());
    doing();
    asking();
    PerfectFerried empty = new PerfectFerried();
    most("text", TEXT, (x, i) -> {
      empty.back();
      feedLong(empty);
      due(empty.text(), 0);
    });
    most("text with a FAULT", 0, (x, i) -> {
      empty.back();
      feedLong(empty);
      empty.end(299);
      due(empty.text(), -1);
    });
    finish();
  }

  /** fades 1+1+1 .. of 300 bytes: as much code as a TEXT can have. */
  private static void feedLong(PerfectFerried x) {
    x.end(0);
    x.feed(0x66616465, 0x7320312b, 0x312b312b, 0x312b312b, 0x312b312b);
    for (int i = 0; i < 13; i++) x.feed(0x312b312b, 0x312b312b, 0x312b312b, 0x312b312b, 0x312b312b);
    x.feed(0x312b312b, 0x312b312b, 0x312b312b, 0x312b312b, 0x312b313b);
  }

  private static void doing() {
    most("form, person, story", 0, (x, i) -> {
      x.form(i % 5, 1);
      x.person(i % 99, 1);
      x.story(i);
    });
    most("feed, end", 0, (x, i) -> {
      x.feed(i, i, i, i, i);
      x.end(i);
      x.fault(0);
    });
    most("forget, teach, tell", 0, (x, i) -> {
      x.forget(i % 6, i % 8);
      x.teach(i % 8, (i + 1) % 6, i % 6);
      x.tell(i % 6, i % 4);
    });
    most("year", 0, (x, i) -> x.year(60));
    most("played", 0, (x, i) -> x.played(i % 4));
    most("ages", 0, (x, i) -> x.ages(i, 40));
    most("undo", 0, (x, i) -> {
      x.forget(i % 6, i % 8);
      x.undo();
    });
    most("image, back", 0, (x, i) -> {
      x.image();
      x.back();
    });
  }

  private static void asking() {
    most("of", 0, (x, i) -> x.of(i % 6, i % 4));
    most("ofForm", 0, (x, i) -> x.ofForm(i % 8, i % 3));
    most("law", 0, (x, i) -> x.law(i % 6, i % 8, i % 2 == 0));
    most("is, about, book, ledger", 0, (x, i) -> {
      x.is(i % 4);
      x.about(i % 9);
      x.book(0, 0);
      x.ledger(-1);
    });
    most("foretold", 0, (x, i) -> x.foretold(60, i % 6, i % 2));
    most("order, number, holds, apart", 0, (x, i) -> {
      x.order(i, i % 5);
      x.number(4, 3, 2, 1, 0);
      x.holds(i, 0, 1, 2);
      x.apart(i, 119);
    });
    most("say, could", 0, (x, i) -> {
      if (i % 9 == 0) x.say(-1, 0, 0);
      x.say(0, i % 5, (i + 1) % 5);
      x.could(-1);
    });
    most("likely, sure, ask", 0, (x, i) -> {
      x.likely(0, 1, true);
      x.sure(i % 5);
      x.ask();
    });
    most("least, blurred, both", 0, (x, i) -> {
      x.least(i, i % 4, true);
      x.blurred(i, i % 4);
      x.both(0, i % 6, 0);
    });
    most("cover", 0, (x, i) -> x.cover(i % 6));
    most("keep", 0, (x, i) -> x.keep());
    most("middle", 0, (x, i) -> x.middle());
    most("lost, heirs", 0, (x, i) -> {
      x.lost(i % 8, 3, true);
      x.heirs(i % 8);
    });
    most("seen, whose", 0, (x, i) -> {
      x.seen(i % 6, i % 11);
      x.whose();
    });
    most("richest, rarest, silent", 0, (x, i) -> {
      x.richest();
      x.rarest();
      x.silent();
    });
  }
}
