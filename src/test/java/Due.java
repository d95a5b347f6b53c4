import java.io.IOException;
import java.nio.file.Files;
import java.nio.file.Path;

/** What the tests share: it counts answers that are not the due ones, and feeds texts. */
final class Due {
  private final String test;
  private final String document;
  private String sentence = "";
  private int sentences;
  private int calls;
  private int callsAhead;
  private int wrong;

  Due(String test) {
    this.test = test;
    document = null;
  }

  /** A test of sentences of the document, which is found from the project's root (the first argument). */
  Due(String test, String[] args) throws IOException {
    this.test = test;
    document = args.length == 0 ? null : plain(Files.readString(Path.of(args[0], "..", "shared", "DOC.md")));
  }

  private static String plain(String text) {
    return text.replaceAll("\\s+", " ");
  }

  /** The next answers hold these words of the document; " ... " stands for words left out. */
  void says(String words) {
    endOfSentence();
    sentence = words + ": ";
    sentences++;
    int from = 0;
    for (String part : document == null ? new String[0] : words.split(" \\.\\.\\. ")) {
      from = document.indexOf(plain(part), from);
      if (from < 0) {
        tellWrong("the document does not say " + part);
        return;
      }
    }
  }

  /** A sentence without an answer is not tested. */
  private void endOfSentence() {
    if (sentences > 0 && calls == callsAhead) {
      tellWrong("nothing was asked");
    }
    callsAhead = calls;
  }

  private void tellWrong(String what) {
    wrong++;
    System.out.println(test + ": " + sentence + what);
  }

  void due(String call, long got, long want) {
    calls++;
    if (got != want) {
      tellWrong(call + " answered " + got + ", due is " + want);
    }
  }

  void due(String call, boolean got, boolean want) {
    due(call, got ? 1 : 0, want ? 1 : 0);
  }

  /** Ends the test: with exit code 1 if an answer was wrong. */
  void close() {
    endOfSentence();
    String held = sentences > 0 ? sentences + " sentences, " : "";
    System.out.println(test + ": " + held + calls + " answers, " + wrong + " wrong");
    if (wrong != 0 || calls == 0) {
      System.exit(1);
    }
  }

  /** Puts a text on the tape, which must be empty. */
  static void feed(RisingSnow x, String text) {
    for (int i = 0; i < text.length(); i += 20) {
      x.feed(four(text, i), four(text, i + 4), four(text, i + 8), four(text, i + 12), four(text, i + 16));
    }
    x.end(text.length());
  }

  static int four(String text, int from) {
    int number = 0;
    for (int i = from; i < from + 4; i++) {
      number = number << 8 | (i < text.length() ? text.charAt(i) & 255 : ' ');
    }
    return number;
  }

  static String bytes(int... values) {
    StringBuilder b = new StringBuilder();
    for (int v : values) {
      b.append((char) v);
    }
    return b.toString();
  }

  /**
   * AN IMAGE with its last byte: of each of the people his place and his points, of each thing who
   * lost it, how much is gone, how much lies in each place.
   */
  static String image(int day, int[][] people, int[][] things) {
    StringBuilder b = new StringBuilder(bytes(day >> 8, day & 255));
    for (int[] one : people) {
      b.append(bytes(one));
    }
    for (int[] thing : things) {
      b.append(bytes(thing[0]));
      for (int i = 1; i < thing.length; i++) {
        b.append(bytes(thing[i] >> 8, thing[i] & 255));
      }
    }
    return b + bytes(lastByte(b.toString()));
  }

  static int lastByte(String ahead) {
    int c = 211;
    for (int i = 0; i < ahead.length(); i++) {
      c = (3 * c + ahead.charAt(i)) % 251;
    }
    return c;
  }

  /** on() of such an image, which must be one. */
  void on(RisingSnow x, int day, int[][] people, int[][] things) {
    feed(x, image(day, people, things));
    due("on()", x.on(), true);
  }

  /** A new object with this VALLEY. */
  RisingSnow told(String text, int statements) {
    RisingSnow x = new RisingSnow();
    feed(x, text);
    due("valley() of " + text, x.valley(), statements);
    return x;
  }

  /** A new object with this VALLEY, in which each sign ; ends a STATEMENT. */
  RisingSnow told(String text) {
    return told(text, (int) text.chars().filter(c -> c == ';').count());
  }

  /** valley() of a text with a FAULT, on an object of its own. */
  void faulty(String text, int fault, int at) {
    RisingSnow x = new RisingSnow();
    feed(x, text);
    due("valley() of " + text, x.valley(), -1);
    due("fault(0) of " + text, x.fault(0), fault);
    due("fault(1) of " + text, x.fault(1), at);
    due("status(1) of " + text, x.status(1), 1);
  }

  /** The same of a text in which the sign | (which is taken out) stands ahead of the FAULT's place. */
  void faulty(int fault, String marked) {
    faulty(marked.replace("|", ""), fault, marked.indexOf('|'));
  }

  long ask(RisingSnow x, int person, String text) {
    feed(x, text);
    return x.ask(person);
  }
}
