import java.lang.management.ManagementFactory;

/** Calls make nothing but what is kept, and never fail: LANGUAGE.md, rules 7 and 12. */
public final class RoomTest {
  static final Due D = new Due("RoomTest");
  static final int[] STRANGE = {0, 1, 2, 5, 9, 10, 40, 99, 1023, -1, -2, 100000, Integer.MAX_VALUE, Integer.MIN_VALUE};

  public static void main(String[] args) {
    D.due("room of an object", roomOf(() -> new RisingSnow()) < 60000, true);
    RisingSnow x = large();
    everything(x);
    D.due("room of calls", roomOf(() -> everything(x)) < 1000, true);
    D.due("the valley stays", x.has(2), 10);
    D.due("so do the people's places", x.person(5, 0) >= 0, true);
    everything(new RisingSnow());
    D.close();
  }

  static long roomOf(Runnable work) {
    com.sun.management.ThreadMXBean bean = (com.sun.management.ThreadMXBean) ManagementFactory.getThreadMXBean();
    long id = Thread.currentThread().getId();
    work.run();
    long before = bean.getThreadAllocatedBytes(id);
    work.run();
    return bean.getThreadAllocatedBytes(id) - before;
  }

  /** Ten THINGS in a row, six PEOPLE who know them all. */
  static RisingSnow large() {
    StringBuilder b = new StringBuilder("place x;place y;way x y takes 3;");
    for (int i = 0; i < 6; i++) {
      b.append("person m").append((char) ('a' + i)).append(" at x;");
    }
    for (int i = 0; i < 10; i++) {
      b.append("thing t").append((char) ('a' + i)).append(" weighs 1").append(i > 0 ? " from t" + (char) ('a' + i - 1) : "").append(';');
      b.append("knows ma t").append((char) ('a' + i)).append(" 99;");
    }
    b.append("hear 99;fade points-5-know/7+min(1,max(0,know-9))*(points/2)-(day/9999);say points+3;thief 40;busy 80;");
    RisingSnow x = D.told(b.toString(), 34);
    for (int i = 0; i < 10; i++) {
      D.due("say", x.say(0, i), 5);
    }
    return x;
  }

  static int a;

  static void everything(RisingSnow x) {
    int[] k = STRANGE;
    for (int i = 0; i < k.length; i++) {
      for (int j = 0; j < k.length; j++) {
        a += x.has(k[i]) + x.fault(k[i]) + x.status(k[i]) + x.octet(k[i]) + x.forgets(k[i]) + x.breaks(k[i]);
        a += x.thing(k[i], k[j]) + x.person(k[i], k[j]) + x.points(k[i], k[j]) + x.lies(k[i], k[j]) + x.way(k[i], k[j]);
        a += x.say(k[i], k[j]) + x.nights(k[i] < 3 ? k[i] : -1);
        a += x.take(k[i], k[j]) | x.go(k[i], k[j]) | x.undo() | x.undo() | x.seed(k[j]) | x.end(k[i]) ? 1 : 0;
        a += x.feed(k[i], k[j], k[i], k[j], 7) + x.valley();
        a += x.feed(k[i], k[j], k[i], k[j], 7) + (int) x.ask(k[i]) + x.whose() + x.image() + (x.on() ? 1 : 0);
        a += x.days(k[i] < 3 ? k[i] : -1) + (x.undo() ? 1 : 0);
        three(x, k[i], k[j]);
      }
    }
  }

  static void three(RisingSnow x, int i, int j) {
    for (int l : STRANGE) {
      a += x.letter(i, j, l) + x.later(i, j, l) + x.best(i, j, l) + x.shovel(i, j, l) + x.route(i, j, l);
      if (l < 2) {
        a += x.against(i, j, l) + x.keep(i, j, 3, l) + x.keep(i, j, l, 0);
      }
    }
  }
}
