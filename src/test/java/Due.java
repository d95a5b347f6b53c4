/** What the tests share: it counts answers that are not the due ones, and feeds texts. */
final class Due {
  private final String test;
  private int calls;
  private int wrong;

  Due(String test) {
    this.test = test;
  }

  void due(String call, long got, long want) {
    calls++;
    if (got != want) {
      wrong++;
      System.out.println(test + ": " + call + " answered " + got + ", due is " + want);
    }
  }

  void due(String call, boolean got, boolean want) {
    due(call, got ? 1 : 0, want ? 1 : 0);
  }

  /** Ends the test: with exit code 1 if an answer was wrong. */
  void close() {
    System.out.println(test + ": " + calls + " answers, " + wrong + " wrong");
    if (wrong != 0 || calls == 0) {
      System.exit(1);
    }
  }

  /** Puts a text on the tape, which must be empty. */
  static void feed(RisingSnow x, String text) {
    for (int i = 0; i < text.length(); i += 20) {
      x.feed(four(text, i), four(text, i + 4), four(text, i + 8), four(text, i + 12), four(text, i + 16));
    }
    x.end(text.length());
  }

  static int four(String text, int from) {
    int number = 0;
    for (int i = from; i < from + 4; i++) {
      number = number << 8 | (i < text.length() ? text.charAt(i) & 255 : ' ');
    }
    return number;
  }

  static String bytes(int... values) {
    StringBuilder b = new StringBuilder();
    for (int v : values) {
      b.append((char) v);
    }
    return b.toString();
  }

  /** A new object with this VALLEY. */
  RisingSnow told(String text, int statements) {
    RisingSnow x = new RisingSnow();
    feed(x, text);
    due("valley() of " + text, x.valley(), statements);
    return x;
  }

  /** valley() of a text with a FAULT, on an object of its own. */
  void faulty(String text, int fault, int at) {
    RisingSnow x = new RisingSnow();
    feed(x, text);
    due("valley() of " + text, x.valley(), -1);
    due("fault(0) of " + text, x.fault(0), fault);
    due("fault(1) of " + text, x.fault(1), at);
    due("status(1) of " + text, x.status(1), 1);
  }

  long ask(RisingSnow x, int person, String text) {
    feed(x, text);
    return x.ask(person);
  }
}
