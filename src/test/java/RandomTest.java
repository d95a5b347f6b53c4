import java.util.Random;

/**
 * Random valleys, faulty texts, questions, images and calls: RisingSnow must answer as Model does.
 * An argument tells how many objects are made (default 1500), a second one the first seed.
 */
public final class RandomTest {
  static final Due DUE = new Due("RandomTest");
  static Random r = new Random(1);

  public static void main(String[] args) {
    int objects = args.length > 1 ? Integer.parseInt(args[1]) : 1500;
    int first = args.length > 2 ? Integer.parseInt(args[2]) : 1;
    for (int i = 0; i < objects; i++) {
      r = new Random(first + i);
      run("seed " + (first + i) + " ");
    }
    DUE.close();
  }

  static int n(int below) {
    return r.nextInt(below);
  }

  static int odd(int most) {
    int[] strange = {-1, -2, most, most + 1, 100, 1000, Integer.MAX_VALUE, Integer.MIN_VALUE};
    return most > 0 && n(12) > 0 ? n(most) : strange[n(strange.length)];
  }

  static String pick(String list) {
    String[] words = list.split(" ");
    return words[n(words.length)];
  }

  // ---- texts

  static String gap() {
    return n(6) == 0 ? pick("1 2").equals("1") ? "\n" : "  " : " ";
  }

  static String maybe() {
    return n(8) == 0 ? " " : "";
  }

  static String sum(String words, int depth) {
    StringBuilder b = new StringBuilder(product(words, depth));
    for (int i = n(3); i > 0; i--) {
      b.append(maybe()).append(pick("+ -")).append(maybe()).append(product(words, depth));
    }
    return b.toString();
  }

  static String product(String words, int depth) {
    StringBuilder b = new StringBuilder(part(words, depth));
    while (n(4) == 0) {
      b.append(maybe()).append(pick("* /")).append(maybe()).append(part(words, depth));
    }
    return b.toString();
  }

  static String part(String words, int depth) {
    int k = n(depth > 0 ? 10 : 7);
    if (k < 3) {
      return n(9) == 0 ? "" + n(10000) : "" + n(12);
    }
    if (k < 7) {
      String word = pick(words);
      return word.equals("of") ? "points " + part(words, depth - 1) : word;
    }
    if (k < 9) {
      return "(" + maybe() + sum(words, depth - 1) + maybe() + ")";
    }
    return pick("min max") + maybe() + "(" + sum(words, depth - 1) + "," + sum(words, depth - 1) + ")";
  }

  static final String FADES = "points points points points hangs weighs know day";
  static final String RISES = "lies lies lies weighs know day";
  static final String ASKED = "of of of number number lies gone know weighs hangs";

  static String fade() {
    return switch (n(8)) {
      case 0 -> sum(FADES, 2);
      case 1 -> "points-" + sum(FADES, 0) + "/9";
      case 2 -> "points*know/" + (1 + n(4)) + "-" + n(4);
      case 3 -> "points-" + n(30) + "/(know+1)-" + n(3);
      case 4 -> "points+know*" + n(4) + "-" + n(9);
      case 5 -> "points-max(hangs,know-" + n(3) + ")*" + n(5);
      case 6 -> n(40) + "+know-points";
      default -> "points-" + (1 + n(12));
    };
  }

  static String test(int depth) {
    int k = n(depth > 0 ? 8 : 3);
    if (k < 3) {
      return sum(ASKED, depth) + maybe() + pick("< > =") + maybe() + sum(ASKED, depth);
    }
    if (k == 3) {
      return "all";
    }
    if (k == 4) {
      return "not " + test(depth - 1);
    }
    if (k == 5) {
      return "[" + test(depth - 1) + "]";
    }
    return test(depth - 1) + " " + pick("or and") + " " + test(depth - 1);
  }

  static String question() {
    int depth = n(5);
    return n(2) == 0 ? pick("first last often") + gap() + test(depth) : pick("total most least") + gap() + sum(ASKED, depth);
  }

  static String name(String sort, int i) {
    return n(500) == 0 ? pick("first last a b place at abcdefg abcdef ab") : sort + (char) ('a' + i);
  }

  static String valleyText() {
    int places = n(10) == 0 ? n(8) : 1 + n(4);
    int people = n(10) == 0 ? n(8) : 1 + n(4);
    int things = n(30) == 0 ? 5 + n(7) : 1 + n(5);
    StringBuilder b = new StringBuilder();
    for (int i = 0; i < places; i++) {
      b.append("place").append(gap()).append(name("p", i)).append(maybe()).append(';').append(maybe());
    }
    for (int i = n(8); i > 0 && places > 1; i--) {
      int from = n(places);
      int to = n(40) == 0 ? from : (from + 1 + n(places - 1)) % places;
      b.append("way ").append(name("p", from)).append(gap()).append(name("p", to)).append(" takes ").append(1 + n(9)).append(';');
    }
    for (int i = 0; i < people && places > 0; i++) {
      b.append("person ").append(name("m", i)).append(" at ").append(name("p", n(n(2) == 0 ? 1 : places))).append(';');
    }
    for (int i = 0; i < things; i++) {
      b.append("thing ").append(name("t", i)).append(" weighs ").append(1 + n(9));
      int from = i > 0 && n(2) == 0 ? 1 + n(i) : 0;
      String roots = "";
      for (int k = 0; k < i && from > 0; k++) {
        roots += n(i) < from ? " t" + (char) ('a' + k) : "";
      }
      b.append(roots.isEmpty() ? "" : " from" + roots).append(';');
    }
    int scarce = 1 + n(3);
    for (int i = 0; i < people * things && places > 0; i++) {
      if (n(4) >= scarce - 1) {
        b.append("knows ").append(name("m", i % people)).append(' ').append(name("t", i / people)).append(' ').append(n(n(2) == 0 ? 100 : 20)).append(';');
      }
    }
    b.append(n(6) > 0 ? "fade " + fade() + ";" : "");
    b.append(n(3) > 0 ? "say " + (n(2) == 0 ? "points+" + n(30) : sum(FADES, 2)) + ";" : "");
    b.append(n(3) > 0 ? "hear " + (n(2) == 0 ? "points+" + n(30) : sum(FADES, 2)) + ";" : "");
    b.append(n(3) > 0 ? "rise " + sum(RISES, 2) + ";" : "");
    b.append(n(2) > 0 ? "catch " + (n(20) == 0 ? 0 : 1 + n(99)) + ";" : "");
    b.append(n(2) > 0 ? "breaks " + n(30) + ";" : "");
    b.append(n(2) > 0 ? "thief " + n(40) + ";" : "");
    b.append(n(2) > 0 ? "busy " + n(n(20) == 0 ? 110 : 101) + ";" : "");
    if (n(25) == 0) {
      for (int i = 0; i < 80; i++) {
        b.append("busy 7;");
      }
    }
    return b.toString();
  }

  static String spoil(String text) {
    StringBuilder b = new StringBuilder(text);
    for (int i = n(3); i >= 0 && b.length() > 0; i--) {
      int at = n(b.length());
      switch (n(6)) {
        case 0 -> b.deleteCharAt(at);
        case 1 -> b.insert(at, pick("( ) [ ] ; , + - * / 0 7 a z not points fade 12345 abcdefg < = > A \t"));
        case 2 -> b.setCharAt(at, pick("( ) [ ] ; , + - * / 0 7 a z").charAt(0));
        case 3 -> b.setLength(at);
        case 4 -> b.insert(at, " " + pick(String.join(" ", Model.OWN)) + " ");
        default -> b.insert(at, b.substring(at, Math.min(b.length(), at + n(20))));
      }
    }
    return b.substring(0, Math.min(1600, b.length()));
  }

  // ---- runs

  static void feed(RisingSnow x, Model m, String text, String run) {
    x.end(0);
    m.end(0);
    for (int i = 0; i < text.length(); i += 20) {
      int[] k = {Due.four(text, i), Due.four(text, i + 4), Due.four(text, i + 8), Due.four(text, i + 12), Due.four(text, i + 16)};
      DUE.due(run + "feed", x.feed(k[0], k[1], k[2], k[3], k[4]), m.feed(k));
    }
    DUE.due(run + "end", x.end(text.length()), m.end(text.length()));
  }

  static void faults(RisingSnow x, Model m, String run) {
    for (int i = -1; i < 3; i++) {
      DUE.due(run + "fault(" + i + ")", x.fault(i), m.fault(i));
    }
  }

  static void run(String run) {
    RisingSnow x = new RisingSnow();
    Model m = new Model();
    int last = 3 + n(3);
    for (int i = 0; i <= last || (i < 20 && (m.w.people.isEmpty() || m.w.things.isEmpty())); i++) {
      String text = valleyText();
      text = i < last && n(2) == 0 ? spoil(text) : text;
      text = text.substring(0, Math.min(1600, text.length()));
      feed(x, m, text, run);
      DUE.due(run + "valley() of " + text, x.valley(), m.valley());
      faults(x, m, run + text + " ");
      if (n(3) == 0) {
        acts(x, m, run, n(5));
      }
    }
    acts(x, m, run + " last ", 60);
    all(x, m, run);
  }

  static void acts(RisingSnow x, Model m, String run, int calls) {
    int things = m.w.things.size();
    int people = m.w.people.size();
    int places = m.w.places.size();
    for (int i = 0; i < calls; i++) {
      int p = odd(people);
      int t = odd(things);
      int a = odd(places);
      String at = run + i + " of " + p + " " + t + " " + a + ": ";
      switch (n(22)) {
        case 0, 1 -> DUE.due(at + "say", x.say(p, t), m.say(p, t));
        case 2, 3 -> DUE.due(at + "take", x.take(p, t), m.take(p, t));
        case 4 -> DUE.due(at + "go", x.go(p, a), m.go(p, a));
        case 5, 6 -> nights(x, m, at, n(9) == 0 ? odd(101) : 1);
        case 7 -> days(x, m, at, n(5) == 0 ? odd(101) : 1 + n(2));
        case 8 -> DUE.due(at + "undo", x.undo(), m.undo());
        case 9 -> seed(x, m, at, odd(1000));
        case 10, 11, 12 -> ask(x, m, at, p, question());
        case 13 -> ask(x, m, at, p, spoil(question()));
        case 14 -> image(x, m, at);
        case 15 -> whose(x, m, at);
        case 16 -> keep(x, m, at, p, things);
        case 17 -> best(x, m, at, p);
        case 18 -> shovel(x, m, at, odd(places + 1));
        case 19 -> route(x, m, at, a, odd(places));
        case 20 -> against(x, m, at, p, t);
        default -> seen(x, m, at, p, t);
      }
    }
  }

  static void nights(RisingSnow x, Model m, String at, int n) {
    DUE.due(at + "nights " + n, x.nights(n), m.nights(n));
  }

  static void days(RisingSnow x, Model m, String at, int n) {
    DUE.due(at + "days " + n, x.days(n), m.days(n));
  }

  static void seed(RisingSnow x, Model m, String at, int seed) {
    DUE.due(at + "seed " + seed, x.seed(seed), m.seed(seed));
  }

  static void ask(RisingSnow x, Model m, String at, int p, String question) {
    String text = question.substring(0, Math.min(1600, question.length()));
    feed(x, m, text, at);
    DUE.due(at + "ask of " + text, x.ask(p), m.ask(p));
    faults(x, m, at + text + " ");
  }

  static void image(RisingSnow x, Model m, String at) {
    int size = m.image();
    DUE.due(at + "image", x.image(), size);
    StringBuilder b = new StringBuilder();
    for (int k = -1; k <= size; k++) {
      DUE.due(at + "octet " + k, x.octet(k), m.octet(k));
      if (k >= 0 && k < size) {
        b.append((char) m.octet(k));
      }
    }
    if (n(2) == 0) {
      for (int i = n(4); i > 0; i--) {
        b.setCharAt(n(size), (char) (n(2) == 0 ? n(256) : n(100)));
      }
      if (n(4) == 0) {
        int day = 9999 - n(60);
        b.setCharAt(0, (char) (day / 256));
        b.setCharAt(1, (char) (day % 256));
      }
      if (n(5) > 0) {
        int c = 211;
        for (int i = 0; i < size - 1; i++) {
          c = (3 * c + b.charAt(i)) % 251;
        }
        b.setCharAt(size - 1, (char) c);
      }
    }
    if (n(10) == 0) {
      b.append((char) n(256));
    }
    feed(x, m, b.toString(), at);
    DUE.due(at + "on", x.on(), m.on());
    DUE.due(at + "feed", x.feed(1, 2, 3, 4, 5), m.feed(1, 2, 3, 4, 5));
  }

  static void whose(RisingSnow x, Model m, String at) {
    StringBuilder b = new StringBuilder();
    for (int i = n(n(4) == 0 ? 13 : 3); i >= 0; i--) {
      b.append((char) (odd(m.w.things.size()) & 255));
    }
    feed(x, m, b.toString(), at);
    DUE.due(at + "whose", x.whose(), m.whose());
  }

  static void keep(RisingSnow x, Model m, String at, int p, int things) {
    int n = n(5) == 0 ? odd(21) : 1 + n(4);
    int set = n(5) > 0 && m.who(p) ? n(1 << things) & m.person(p, 1) : odd(1 << things);
    for (int what = -1; what < 3; what++) {
      DUE.due(at + "keep " + set + " " + n + " " + what, x.keep(p, set, n, what), m.keep(p, set, n, what));
    }
  }

  static void best(RisingSnow x, Model m, String at, int p) {
    int n = n(2) == 0 ? odd(41) : 1 + n(4);
    for (int what = -1; what < 3; what++) {
      DUE.due(at + "best " + n + " " + what, x.best(p, n, what), m.best(p, n, what));
    }
  }

  static void shovel(RisingSnow x, Model m, String at, int places) {
    int n = n(4) == 0 ? odd(41) : 1 + n(4);
    for (int what = -1; what < 3; what++) {
      DUE.due(at + "shovel " + n + " " + places + " " + what, x.shovel(n, places, what), m.shovel(n, places, what));
    }
  }

  static void route(RisingSnow x, Model m, String at, int a, int b) {
    for (int k = -2; k < 7; k++) {
      DUE.due(at + "route " + b + " " + k, x.route(a, b, k), m.route(a, b, k));
    }
  }

  static void against(RisingSnow x, Model m, String at, int p, int t) {
    int n = n(8) == 0 ? odd(3) : m.w.things.size() > 5 ? n(2) : n(3);
    DUE.due(at + "against " + n, x.against(p, t, n), m.against(p, t, n));
  }

  static void seen(RisingSnow x, Model m, String at, int p, int t) {
    int n = n(3) == 0 ? odd(42) : n(6);
    DUE.due(at + "later " + n, x.later(p, t, n), m.later(p, t, n));
    for (int what = -1; what < 4; what++) {
      DUE.due(at + "forgets " + what, x.forgets(what), m.forgets(what));
      DUE.due(at + "breaks " + what, x.breaks(what), m.breaks(what));
    }
  }

  /** All that can be looked at, when a run ends. */
  static void all(RisingSnow x, Model m, String run) {
    for (int what = -1; what < 10; what++) {
      DUE.due(run + "has " + what, x.has(what), m.has(what));
      DUE.due(run + "status " + what, x.status(what), m.status(what));
    }
    for (int i = -1; i < 11; i++) {
      for (int k = -1; k < 11; k++) {
        DUE.due(run + "letter 0 " + i + " " + k, x.letter(0, i, k), m.letter(0, i, k));
        DUE.due(run + "letter " + k + " " + i + " 1", x.letter(k, i, 1), m.letter(k, i, 1));
        DUE.due(run + "thing " + i + " " + k, x.thing(i, k), m.thing(i, k));
        DUE.due(run + "person " + i + " " + k, x.person(i, k), m.person(i, k));
        DUE.due(run + "points " + i + " " + k, x.points(i, k), m.points(i, k));
        DUE.due(run + "lies " + i + " " + k, x.lies(i, k), m.lies(i, k));
        DUE.due(run + "way " + i + " " + k, x.way(i, k), m.way(i, k));
      }
    }
  }
}
