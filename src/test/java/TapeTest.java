/** Promises 1 (a new object), 2 (feed), 3 (end), 33 (status). */
public final class TapeTest {
  static final Due D = new Due("TapeTest");

  public static void main(String[] args) {
    newObject();
    feed();
    end();
    status();
    D.close();
  }

  static void newObject() {
    RisingSnow x = new RisingSnow();
    for (int what = 0; what <= 8; what++) {
      D.due("1 has(" + what + ")", x.has(what), 0);
    }
    D.due("1 has(-1)", x.has(-1), -1);
    D.due("1 fault(0)", x.fault(0), 0);
    D.due("1 fault(1)", x.fault(1), -1);
    D.due("1 octet(0)", x.octet(0), -1);
    D.due("1 image()", x.image(), 3);
    D.due("1 undo()", x.undo(), false);
    D.due("1 NONE", RisingSnow.NONE, -1);
    D.due("1 NOTHING", RisingSnow.NOTHING, -1000000000000000L);
  }

  static void feed() {
    RisingSnow x = D.told("place a;person p at a;thing t weighs 1;thing u weighs 1;knows p t 1;knows p u 1;fade 0;", 7);
    x.nights(1);
    D.due("2 feed", x.feed(0x00010001, 0x01000000, 0, 0, 1), 20);
    D.due("2 end(4)", x.end(4), true);
    D.due("2 the bytes of a number, the highest first", x.whose(), 1);
    D.due("2 feed", x.feed(0x00010002, 0, 0, 0, 0), 20);
    D.due("2 end(4)", x.end(4), true);
    D.due("2 the fourth byte is the lowest", x.whose(), -1);
    D.due("2 feed", x.feed(0, 0, 0, 0, 0xff000001), 20);
    D.due("2 whose() of twenty", x.whose(), -1);
    for (int i = 1; i <= 80; i++) {
      D.due("2 feed " + i, x.feed(-1, -1, -1, -1, -1), 20 * i);
    }
    D.due("2 feed beyond 1600", x.feed(0, 0, 0, 0, 0), -1);
    D.due("2 status(0)", x.status(0), 1);
    D.due("2 end(1581)", x.end(1581), true);
    D.due("2 feed beyond 1600", x.feed(0, 0, 0, 0, 0), -1);
    D.due("2 end(1580)", x.end(1580), true);
    D.due("2 feed to 1600", x.feed(0, 0, 0, 0, 0), 1600);
    D.due("2 status(0)", x.status(0), 2);
  }

  static void end() {
    RisingSnow x = new RisingSnow();
    D.due("3 end(0) of nothing", x.end(0), true);
    D.due("3 end(1) of nothing", x.end(1), false);
    D.due("3 end(-1)", x.end(-1), false);
    D.due("3 status(0)", x.status(0), 2);
    x.feed(1, 2, 3, 4, 5);
    D.due("3 end(20)", x.end(20), true);
    D.due("3 end(21)", x.end(21), false);
    D.due("3 end(7)", x.end(7), true);
    D.due("3 end(8)", x.end(8), false);
    D.due("3 feed", x.feed(1, 2, 3, 4, 5), 27);
    D.due("3 end(min)", x.end(Integer.MIN_VALUE), false);
    D.due("3 end(max)", x.end(Integer.MAX_VALUE), false);
    D.due("3 feed", x.feed(1, 2, 3, 4, 5), 47);
    D.due("3 end(0)", x.end(0), true);
    D.due("3 valley() of nothing", x.valley(), 0);
  }

  static void status() {
    RisingSnow x = new RisingSnow();
    x.end(1);
    x.whose();
    x.feed(0, 0, 0, 0, 0);
    x.valley();
    x.say(0, 0);
    x.take(0, 0);
    x.go(0, 0);
    x.nights(0);
    x.nights(101);
    x.days(0);
    x.days(-1);
    x.undo();
    x.seed(-5);
    x.on();
    x.ask(0);
    x.later(0, 0, 0);
    int[] due = {1, 2, 3, 4, 1, 2};
    for (int what = 0; what < 6; what++) {
      D.due("33 status(" + what + ")", x.status(what), due[what]);
    }
    D.due("33 status(6)", x.status(6), -1);
    D.due("33 status(-1)", x.status(-1), -1);
    D.due("33 status(max)", x.status(Integer.MAX_VALUE), -1);
  }
}
