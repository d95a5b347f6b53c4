import java.io.IOException;

/** The edges of promises 1 to 12, 22 to 28 and 33: a test for each sentence that names one. */
public final class EdgeCallsTest {
  static final int[] FAR = {Integer.MIN_VALUE, -2, 100, 10000, Integer.MAX_VALUE};
  static Due d;

  public static void main(String[] args) throws IOException {
    d = new Due("EdgeCallsTest", args);
    manyCalls();
    newObject();
    feed();
    end();
    valley();
    fault();
    has();
    letter();
    thing();
    person();
    points();
    lies();
    way();
    say();
    take();
    go();
    nights();
    days();
    undo();
    seed();
    status();
    d.close();
  }

  static void none(String call, int got) {
    d.due(call, got, -1);
  }

  /** Six places in a row, six people, ten things of which all know all, the second hangs on the first. */
  static RisingSnow largest() {
    StringBuilder b = new StringBuilder();
    for (char c = 'a'; c < 'g'; c++) {
      b.append("place p").append(c).append(';').append("person m").append(c).append(" at p").append(c).append(';');
    }
    for (char c = 'a'; c < 'k'; c++) {
      b.append("thing t").append(c).append(" weighs ").append(c < 'j' ? c - 'a' + 1 : 9).append(c == 'b' ? " from ta;" : ";");
    }
    RisingSnow x = d.told(b + "way pa pf takes 99;fade points-1;rise 0;");
    int[][] people = new int[6][11];
    int[][] things = new int[10][8];
    for (int i = 0; i < 6; i++) {
      java.util.Arrays.fill(people[i], 99);
      people[i][0] = 5 - i;
    }
    for (int i = 0; i < 10; i++) {
      java.util.Arrays.fill(things[i], 999);
      things[i][0] = 63;
      things[i][1] = 9999;
    }
    d.on(x, 9899, people, things);
    return x;
  }

  static void manyCalls() {
    d.says("An object is used for at most 512 calls after it has been made");
    RisingSnow x = new RisingSnow();
    for (int i = 0; i < 511; i++) {
      x.seed(-1);
    }
    d.due("the 512th call", x.status(5), 511);
    x = d.told("place a;person p at a;thing t weighs 1;knows p t 1;say points+1;");
    for (int i = 0; i < 500; i++) {
      d.due("say(0, 0)", x.say(0, 0), 0);
    }
    d.due("points(0, 0)", x.points(0, 0), 99);
    d.due("has(8)", x.has(8), 20);
    x = new RisingSnow();
    for (int i = 0; i < 511; i++) {
      x.nights(19);
    }
    d.due("511 times 19 nights", x.has(3), 9709);
  }

  static void newObject() {
    d.says("No valley, nobody.");
    RisingSnow x = new RisingSnow();
    for (int what = 0; what <= 8; what++) {
      d.due("has(" + what + ")", x.has(what), 0);
    }
    d.due("fault(0)", x.fault(0), 0);
    none("fault(1)", x.fault(1));
    for (int kind = 0; kind < 3; kind++) {
      none("letter", x.letter(kind, 0, 0));
    }
    none("thing", x.thing(0, 0));
    none("person", x.person(0, 0));
    none("points", x.points(0, 0));
    none("lies", x.lies(0, -1));
    none("lies", x.lies(0, 0));
    none("way", x.way(0, 0));
    none("later", x.later(0, 0, 0));
    none("forgets", x.forgets(0));
    none("breaks", x.breaks(0));
    none("best", x.best(0, 1, 0));
    none("keep", x.keep(0, 0, 1, 0));
    none("route", x.route(0, 0, -1));
    none("against", x.against(0, 0, 0));
    none("octet", x.octet(0));
    d.due("the tape is empty", x.end(0), true);
    d.due("the tape is empty", x.end(1), false);
    none("say", x.say(0, 0));
    d.due("take", x.take(0, 0), false);
    d.due("go", x.go(0, 0), false);
    d.due("undo", x.undo(), false);
    int[] refused = {1, 0, 3, 0, 1, 0};
    for (int what = 0; what < 6; what++) {
      d.due("status(" + what + ")", x.status(what), refused[what]);
    }
    d.due("a night", x.nights(1), 0);
    d.due("a day", x.days(1), 0);
    d.due("has(3)", x.has(3), 2);
    d.due("NONE", RisingSnow.NONE, -1);
    d.due("NOTHING", RisingSnow.NOTHING, -1000000000000000L);
  }

  static void feed() {
    d.says("Twenty bytes come behind those on the tape, of each number the highest first: how many there are;");
    RisingSnow x = new RisingSnow();
    d.due("'place a;thing t weig'", x.feed(0x706c6163, 0x6520613b, 0x7468696e, 0x67207420, 0x77656967), 20);
    d.due("'hs 3;way a a takes 1'", x.feed(0x68732033, 0x3b776179, 0x20612061, 0x2074616b, 0x65732031), 40);
    d.due("valley()", x.valley(), -1);
    d.due("fault(0)", x.fault(0), 3);
    d.due("fault(1)", x.fault(1), 31);
    x = d.told("place a;place b;thing t weighs 1;");
    d.on(x, 0x0102, new int[][] {}, new int[][] {{0, 0x0304, 0x0201, 0x0103}});
    d.due("bytes above 127 and signs", x.feed(0xfffefdfc, 0x80000000, 0x7fffffff, 0x00ff00ff, 0x80818283), 20);
    d.due("end(1)", x.end(1), true);
    d.due("valley()", x.valley(), -1);
    d.due("fault(1)", x.fault(1), 0);
    d.due("feed", x.feed(0x20202020, 0x20202020, 0x20202020, 0x20202020, 0x202020a0), 20);
    d.due("valley()", x.valley(), -1);
    d.due("the lowest byte of the last number", x.fault(1), 19);
    d.says("NONE, refused (0), if there would be more than 1600");
    x = new RisingSnow();
    for (int i = 1; i <= 80; i++) {
      d.due("feed " + i, x.feed(0x20202020, 0x20202020, 0x20202020, 0x20202020, 0x20202020), 20 * i);
    }
    d.due("status(0)", x.status(0), 0);
    none("one more", x.feed(0, 0, 0, 0, 0));
    none("one more", x.feed(0, 0, 0, 0, 0));
    d.due("status(0)", x.status(0), 2);
    d.due("the tape stays", x.end(1600), true);
    d.due("end(1581)", x.end(1581), true);
    none("to 1601", x.feed(0, 0, 0, 0, 0));
    d.due("the tape stays", x.end(1582), false);
    d.due("end(1580)", x.end(1580), true);
    d.due("to 1600", x.feed(0x62757379, 0x20313b20, 0x20202020, 0x20202020, 0x2020203b), 1600);
    d.due("status(0)", x.status(0), 4);
    d.due("valley()", x.valley(), -1);
    d.due("the last of 1600 bytes", x.fault(1), 1599);
    d.due("the first of them is one", d.told(" ".repeat(1593) + "busy 1;", 1).has(0), 0);
  }

  static void end() {
    d.says("The tape has its first n bytes alone: true; false, refused (0), if it has not so many, or n is below 0.");
    RisingSnow x = new RisingSnow();
    d.due("end(0) of nothing", x.end(0), true);
    d.due("end(1) of nothing", x.end(1), false);
    d.due("status(0)", x.status(0), 1);
    Due.feed(x, "busy 1;busy 2;busy 30");
    d.due("end(21)", x.end(21), true);
    d.due("end(22)", x.end(22), false);
    d.due("end(-1)", x.end(-1), false);
    for (int n : new int[] {Integer.MIN_VALUE, -2, 100, 1600, 1601, Integer.MAX_VALUE}) {
      d.due("end(" + n + ")", x.end(n), false);
    }
    d.due("status(0)", x.status(0), 9);
    d.due("end(14)", x.end(14), true);
    d.due("they are gone", x.end(15), false);
    d.due("valley()", x.valley(), 2);
    Due.feed(x, "busy 1;busy 2;busy 30");
    d.due("end(0)", x.end(0), true);
    d.due("valley()", x.valley(), 0);
    Due.feed(x, "busy 1;x");
    d.due("end(7)", x.end(7), true);
    d.due("feed behind them", x.feed(0x62757379, 0x20323b20, 0x20202020, 0x20202020, 0x20202020), 27);
    d.due("valley()", x.valley(), 2);
  }

  static void valley() {
    d.says("The tape (it goes) is THE VALLEY: how many STATEMENTS;");
    RisingSnow x = new RisingSnow();
    d.due("of an empty tape", x.valley(), 0);
    Due.feed(x, "place a;busy 3;");
    d.due("of two", x.valley(), 2);
    d.due("the tape goes", x.end(1), false);
    d.due("of an empty tape", x.valley(), 0);
    d.due("no place", x.has(0), 0);
    d.due("status(1)", x.status(1), 0);
    String ahead = "place a;person p at a;thing t weighs 1;knows p t 5;fade points";
    int ones = (1595 - ahead.length()) / 2;
    x = new RisingSnow();
    for (int i = 0; i < 5; i++) {
      Due.feed(x, ahead + "+1".repeat(ones) + "-" + (ones - i) + ";");
      d.due("valley() of a long text", x.valley(), 5);
      d.due("its SUM, whole", x.later(0, 0, 1), 5 + i);
    }
    d.says("NONE, refused (1), with a FAULT (all stays).");
    x = middle();
    String before = Twins.all(x, 1, false);
    String[] faulty = {"place", "busy 101;", "place a;place a;", "fade (((((((1;", "fade 1;fade 1;"};
    for (int i = 0; i < 5; i++) {
      Due.feed(x, faulty[i]);
      d.due("valley() of " + faulty[i], x.valley(), -1);
      d.due("status(1)", x.status(1), i + 1);
      d.due("fault(0)", x.fault(0), i + 1);
      d.due("the tape goes", x.feed(0, 0, 0, 0, 0), 20);
      x.end(0);
      if (i == 4) {
        d.due("all stays", Twins.all(x, 1, false).equals(before), true);
      }
    }
    d.says("Without one it is DAY 0, nothing lies, is GONE, LOST or can be undone; the seed stays.");
    x = largest();
    d.due("nights(100)", x.nights(100), 60);
    Due.feed(x, "place a;place b;person p at b;thing t weighs 1;thing u weighs 2;knows p u 7;");
    d.due("valley()", x.valley(), 6);
    d.due("DAY", x.has(3), 0);
    d.due("nothing lies", x.has(5), 0);
    d.due("nothing is GONE", x.has(6), 0);
    d.due("nothing is LOST", x.thing(0, 4) + x.thing(1, 4), 0);
    d.due("nothing can be undone", x.has(8), 0);
    d.due("nothing can be undone", x.undo(), false);
    d.due("he is where he is told to be", x.person(0, 0), 1);
    d.due("what he is told to know", x.person(0, 1), 2);
    d.due("points(0, 0)", x.points(0, 0), 0);
    d.due("points(0, 1)", x.points(0, 1), 7);
    d.due("no way", x.way(0, 1), -1);
    d.due("no fade", x.later(0, 1, 40), 7);
    d.due("the seed stays", Twins.valleyLater(5, 0), Twins.valleyLater(5, 1));
    d.due("the seed stays", Twins.valleyLater(5, 0) != Twins.valleyLater(6, 0), true);
    nothingOfOthers();
  }

  static final String FULL = "place x;place y;place z;way x y takes 4;way y z takes 5;way z x takes 6;person m at z;person n at z;person o at y;"
      + "thing f weighs 9;thing g weighs 8 from f;thing h weighs 7 from f g;knows m f 3;knows n f 4;knows n g 5;knows m h 6;knows o h 7;"
      + "fade points-1;say points+1;hear 50;rise 0;catch 99;breaks 0;thief 99;busy 100;";
  static final String SPARE = "place a;place b;place c;person p at a;person q at a;thing t weighs 1;thing u weighs 2;thing v weighs 9;"
      + "knows p u 7;knows p v 20;knows q t 1;";

  /** Of valleys told ahead, and of texts with a FAULT, nothing is in THE VALLEY. */
  static void nothingOfOthers() {
    String alone = course(new RisingSnow(), SPARE, 11);
    d.due("of the one ahead", course(d.told(FULL), SPARE, 11).equals(alone), true);
    RisingSnow x = d.told(FULL);
    d.due("valley() of nothing", x.valley(), 0);
    d.due("of the one ahead of that", course(x, SPARE, 11).equals(alone), true);
    x = d.told(FULL);
    for (int i = 1; i <= 4; i++) {
      Due.feed(x, FULL);
      d.due("valley() once more", x.valley(), 25);
      d.due("of the one ahead, " + i, course(x, SPARE, 11).equals(alone), true);
    }
    x = new RisingSnow();
    for (String end : new String[] {"x", "thing k weighs 1 from f g x", "person k at x", "fade 1", "rise ((((((("}) {
      Due.feed(x, FULL + end);
      d.due("valley() with a fault", x.valley(), -1);
      d.due("has(0)", x.has(0), 0);
      d.due("of a text with a fault", course(x, SPARE, 11).equals(alone), true);
      d.due("valley() of nothing", x.valley(), 0);
    }
    Due.feed(x, SPARE);
    d.due("valley()", x.valley(), 11);
    Due.feed(x, FULL + "x");
    d.due("valley() with a fault", x.valley(), -1);
    d.due("the latest one without a fault stays", x.has(0) + x.has(1) + x.has(2), 8);
    d.due("and is told anew", course(x, SPARE, 11).equals(alone), true);
  }

  /** All that a valley answers at first and behind some ACTS. */
  static String course(RisingSnow x, String text, int statements) {
    Due.feed(x, text);
    d.due("valley()", x.valley(), statements);
    x.seed(1);
    StringBuilder b = new StringBuilder();
    answers(x, b);
    b.append(x.days(30)).append(' ');
    answers(x, b);
    b.append(x.say(0, 1)).append(' ').append(x.nights(1)).append(' ').append(x.go(0, 1)).append(' ');
    Due.feed(x, Due.image(0, new int[][] {{0, 9, 0, 0}, {0, 0, 0, 5}}, new int[][] {{0, 0, 20, 0, 0}, {0, 0, 9, 0, 0}, {0, 0, 0, 0, 0}}));
    b.append(x.on()).append(' ').append(x.take(0, 1)).append(' ').append(x.nights(2)).append(' ');
    answers(x, b);
    return b.toString();
  }

  static void answers(RisingSnow x, StringBuilder b) {
    for (int i = 0; i <= 10; i++) {
      b.append(x.has(i)).append(' ').append(x.forgets(i)).append(' ').append(x.breaks(i)).append(' ');
      for (int k = 0; k < 6; k++) {
        b.append(x.letter(0, i, k)).append(' ').append(x.letter(1, i, k)).append(' ').append(x.letter(2, i, k)).append(' ').append(x.thing(i, k)).append(' ');
        b.append(x.way(k, i)).append(' ').append(x.lies(k, i)).append(' ').append(x.person(k, i)).append(' ').append(x.points(k, i)).append(' ');
        b.append(x.later(k, i, 3)).append(' ').append(x.best(k, i, 1)).append(' ').append(x.keep(k, i, 3, 1)).append(' ');
        b.append(x.shovel(i, k, 1)).append(' ').append(x.route(k, i, -1)).append(' ').append(x.against(k, i, 1)).append(' ');
      }
    }
  }

  static void fault() {
    d.says("Of the latest valley() or ask(): its FAULT (what 0; 0 without, and ahead of any), its place (1; NONE without). NONE for another what.");
    RisingSnow x = new RisingSnow();
    d.due("ahead of any", x.fault(0), 0);
    none("ahead of any", x.fault(1));
    String[] texts = {"place", "place a;person p at a;", "busy 101;", "place a;place a;", "fade (((((((1;", "fade 1;fade 1;"};
    int[][] faults = {{1, 5}, {0, -1}, {2, 5}, {3, 14}, {4, 11}, {5, 7}};
    for (int i = 0; i < texts.length; i++) {
      Due.feed(x, texts[i]);
      x.valley();
      d.due("fault(0) of " + texts[i], x.fault(0), faults[i][0]);
      d.due("fault(1) of " + texts[i], x.fault(1), faults[i][1]);
      none("fault(2)", x.fault(2));
      none("fault(-1)", x.fault(-1));
      for (int what : FAR) {
        none("fault(" + what + ")", x.fault(what));
      }
    }
    d.due("of the latest ask()", d.ask(x, 0, "often all"), 0);
    d.due("fault(0)", x.fault(0), 0);
    none("fault(1)", x.fault(1));
    d.due("of the latest ask()", d.ask(x, 0, "often often"), -1000000000000000L);
    d.due("fault(0)", x.fault(0), 1);
    d.due("fault(1)", x.fault(1), 6);
    Due.feed(x, "x");
    x.whose();
    Due.feed(x, "x");
    x.on();
    x.say(0, 0);
    d.due("of no other call", x.fault(1), 6);
    d.due("of an ask()", d.ask(x, 0, "total (((((((1"), -1000000000000000L);
    d.due("fault(0)", x.fault(0), 4);
    d.due("fault(1)", x.fault(1), 12);
    d.due("of the latest valley()", x.valley(), 0);
    d.due("fault(0)", x.fault(0), 0);
    none("fault(1)", x.fault(1));
  }

  static void has() {
    d.says("How many there are: 0 PLACES, 1 PEOPLE, 2 THINGS, 3 DAY, 4 KNOWN ones of all PEOPLE together, 5 what lies in all PLACES, "
        + "6 what is GONE of all THINGS, 7 THINGS that nobody KNOWS (bits), 8 ACTS that can be undone.");
    RisingSnow x = largest();
    int[] most = {6, 6, 10, 9899, 60, 59940, 99990, 0, 0};
    for (int what = 0; what <= 8; what++) {
      d.due("has(" + what + ")", x.has(what), most[what]);
    }
    d.due("nights(99)", x.nights(99), 60);
    d.due("nobody KNOWS", x.has(7), 1023);
    d.due("has(4)", x.has(4), 0);
    d.due("has(8)", x.has(8), 1);
    x = d.told("place a;person p at a;person q at a;thing t weighs 1;thing u weighs 1;thing v weighs 1;knows p t 1;knows q t 1;knows q v 1;");
    d.due("has(4)", x.has(4), 3);
    d.due("has(7)", x.has(7), 2);
    d.says("8 ACTS that can be undone. NONE for others.");
    none("has(-1)", x.has(-1));
    none("has(9)", x.has(9));
    for (int what : FAR) {
      none("has(" + what + ")", x.has(what));
    }
  }

  static void letter() {
    d.says("Letter k (0 .. 5) of the NAME of a PLACE (kind 0), one of the PEOPLE (1), a THING (2): 1 .. 26; 0 behind it; NONE when there is none such.");
    RisingSnow x = d.told("place abcxyz;place b;person z at b;person az at b;thing zzzzzz weighs 1;thing a weighs 1;");
    int[][] due = {{1, 2, 3, 24, 25, 26}, {2, 0, 0, 0, 0, 0}, {26, 0, 0, 0, 0, 0}, {1, 26, 0, 0, 0, 0}, {26, 26, 26, 26, 26, 26}, {1, 0, 0, 0, 0, 0}};
    for (int i = 0; i < 6; i++) {
      for (int k = 0; k < 6; k++) {
        d.due("letter(" + i / 2 + ", " + i % 2 + ", " + k + ")", x.letter(i / 2, i % 2, k), due[i][k]);
      }
      none("k -1", x.letter(i / 2, i % 2, -1));
      none("k 6", x.letter(i / 2, i % 2, 6));
      none("a third", x.letter(i / 2, 2, 0));
      none("which -1", x.letter(i / 2, -1, 0));
      none("kind -1", x.letter(-1, i % 2, 0));
      none("kind 3", x.letter(3, i % 2, 0));
      for (int n : FAR) {
        none("kind " + n, x.letter(n, 0, 0));
        none("which " + n, x.letter(i / 2, n, 0));
        none("k " + n, x.letter(i / 2, 0, n));
      }
    }
    x = largest();
    for (int kind = 0; kind < 3; kind++) {
      int count = kind == 2 ? 10 : 6;
      d.due("the last", x.letter(kind, count - 1, 1), count);
      none("behind the last", x.letter(kind, count, 1));
    }
  }

  static void thing() {
    d.says("Of a THING: 0 how much it weighs, 1 what it hangs on, as bits, 2 how many KNOW it, 3 how much is GONE, 4 who LOST it, as bits. "
        + "NONE when there is none such, or for others.");
    RisingSnow x = largest();
    int[][] due = {{1, 0, 6, 9999, 63}, {2, 1, 6, 9999, 63}};
    for (int what = 0; what < 5; what++) {
      d.due("thing(0, " + what + ")", x.thing(0, what), due[0][what]);
      d.due("thing(1, " + what + ")", x.thing(1, what), due[1][what]);
      d.due("the tenth", x.thing(9, what), new int[] {9, 0, 6, 9999, 63}[what]);
      none("an eleventh", x.thing(10, what));
      none("thing -1", x.thing(-1, what));
    }
    none("what -1", x.thing(0, -1));
    none("what 5", x.thing(0, 5));
    for (int n : FAR) {
      none("thing " + n, x.thing(n, 0));
      none("what " + n, x.thing(0, n));
    }
  }

  static void person() {
    d.says("Of one of the PEOPLE: 0 his PLACE, 1 what he KNOWS, as bits. NONE when there is none such, or for others.");
    RisingSnow x = largest();
    d.due("person(0, 0)", x.person(0, 0), 5);
    d.due("person(5, 0)", x.person(5, 0), 0);
    d.due("person(0, 1)", x.person(0, 1), 1023);
    d.due("person(5, 1)", x.person(5, 1), 1023);
    none("a seventh", x.person(6, 0));
    none("a seventh", x.person(6, 1));
    none("person -1", x.person(-1, 0));
    none("what -1", x.person(0, -1));
    none("what 2", x.person(0, 2));
    for (int n : FAR) {
      none("person " + n, x.person(n, 0));
      none("what " + n, x.person(0, n));
    }
    x = d.told("place a;person p at a;person q at a;thing t weighs 1;thing u weighs 1;knows q u 1;");
    d.due("he KNOWS none", x.person(0, 1), 0);
    d.due("he KNOWS the second", x.person(1, 1), 2);
    none("person 2", x.person(2, 0));
  }

  static void points() {
    d.says("One's points of a THING; NONE when there are none such.");
    RisingSnow x = d.told("place a;person p at a;person q at a;thing t weighs 1;thing u weighs 1;thing v weighs 1;knows p t 1;knows q v 99;");
    int[][] due = {{1, 0, 0}, {0, 0, 99}};
    for (int p = -1; p <= 2; p++) {
      for (int t = -1; t <= 3; t++) {
        d.due("points(" + p + ", " + t + ")", x.points(p, t), p < 0 || p > 1 || t < 0 || t > 2 ? -1 : due[p][t]);
      }
    }
    for (int n : FAR) {
      none("person " + n, x.points(n, 0));
      none("thing " + n, x.points(0, n));
    }
    x = largest();
    d.due("points(5, 9)", x.points(5, 9), 99);
    none("points(6, 9)", x.points(6, 9));
    none("points(5, 10)", x.points(5, 10));
  }

  static void lies() {
    d.says("How much of a THING lies in a PLACE (thing NONE: of all together); NONE when there are none such.");
    RisingSnow x = d.told("place a;place b;thing t weighs 1;thing u weighs 1;");
    d.on(x, 0, new int[][] {}, new int[][] {{0, 0, 0, 999}, {0, 0, 5, 7}});
    int[][] due = {{5, 0, 5}, {1006, 999, 7}};
    for (int place = -1; place <= 2; place++) {
      for (int t = -2; t <= 2; t++) {
        d.due("lies(" + place + ", " + t + ")", x.lies(place, t), place < 0 || place > 1 || t < -1 || t > 1 ? -1 : due[place][t + 1]);
      }
    }
    for (int n : FAR) {
      none("place " + n, x.lies(n, -1));
      none("place " + n, x.lies(n, 0));
      none("thing " + n, x.lies(0, n));
    }
    d.due("of ten together", largest().lies(5, -1), 9990);
    d.due("without things", d.told("place a;").lies(0, -1), 0);
    none("without things", d.told("place a;").lies(0, 0));
  }

  static void way() {
    d.says("What a way from PLACE to PLACE takes, as told; NONE when there is none, or there are none such.");
    RisingSnow x = largest();
    d.due("way(0, 5)", x.way(0, 5), 99);
    d.due("way(5, 0)", x.way(5, 0), 99);
    none("there is none", x.way(0, 1));
    none("there is none", x.way(0, 0));
    none("there is none", x.way(5, 5));
    none("way(0, 6)", x.way(0, 6));
    none("way(6, 0)", x.way(6, 0));
    none("way(-1, 0)", x.way(-1, 0));
    none("way(0, -1)", x.way(0, -1));
    for (int n : FAR) {
      none("from " + n, x.way(n, 5));
      none("to " + n, x.way(0, n));
    }
    x = d.told("place a;place b;way a b takes 1;");
    d.due("as told, without the snow", x.way(0, 1), 1);
    none("a third place", x.way(0, 2));
  }

  /** p, q in a, r in b; it is DAY 5, u lies in a; two ACTS, an image, a FAULT, 20 bytes on the tape. */
  static RisingSnow middle() {
    RisingSnow x = d.told("place a;place b;place c;way a b takes 3;person p at a;person q at a;person r at b;thing t weighs 2;thing u weighs 3 from t;"
        + "thing v weighs 1;knows p t 50;knows p u 9;knows q t 40;knows r v 60;fade points-2-hangs;say points+7;hear points+3;busy 60;breaks 2;rise lies/3;");
    x.seed(12345);
    x.days(3);
    x.nights(2);
    x.image();
    d.due("ask()", d.ask(x, 0, "often x"), -1000000000000000L);
    return x;
  }

  static void say() {
    d.says("A THING is SAID: how many others heard it (who KNOW all it hangs on); NONE, refused (2), when it can't be.");
    RisingSnow x = d.told("place a;place b;person m at a;person n at a;person o at a;person p at a;person q at a;person r at a;thing t weighs 1;thing u weighs 1 from t;"
        + "knows m t 1;knows m u 1;knows n t 1;way a b takes 1;");
    d.due("five heard it", x.say(0, 0), 5);
    d.due("one heard it", x.say(0, 1), 1);
    d.due("he goes", x.go(0, 1), true);
    d.due("nobody heard it", x.say(0, 0), 0);
    d.due("has(8)", x.has(8), 4);
    d.due("status(2)", x.status(2), 0);
    none("he does not KNOW it", x.say(1, 1));
    d.due("status(2)", x.status(2), 1);
    Twins.refused("say", 2, y -> y.say(2, 0));
    Twins.refused("say", 2, y -> y.say(0, 2));
    Twins.refused("say", 2, y -> y.say(3, 0));
    Twins.refused("say", 2, y -> y.say(-1, 0));
    Twins.refused("say", 2, y -> y.say(0, 3));
    Twins.refused("say", 2, y -> y.say(0, -1));
    for (int n : FAR) {
      Twins.refused("say", 2, y -> y.say(n, 0));
      Twins.refused("say", 2, y -> y.say(0, n));
    }
  }

  static void take() {
    d.says("A THING is CAUGHT: true; false, refused (2), when it can't be.");
    RisingSnow x = middle();
    d.due("u lies in a", x.lies(0, 1) > 0, true);
    d.due("take(0, 1)", x.take(0, 1), true);
    d.due("points(0, 1)", x.points(0, 1), 30);
    d.due("has(8)", x.has(8), 3);
    d.due("status(2)", x.status(2), 0);
    Twins.refused("take", 2, y -> y.take(0, 0));
    Twins.refused("take", 2, y -> y.take(2, 1));
    Twins.refused("take", 2, y -> y.take(3, 1));
    Twins.refused("take", 2, y -> y.take(-1, 1));
    Twins.refused("take", 2, y -> y.take(0, 3));
    Twins.refused("take", 2, y -> y.take(0, -1));
    for (int n : FAR) {
      Twins.refused("take", 2, y -> y.take(n, 1));
      Twins.refused("take", 2, y -> y.take(0, n));
    }
  }

  static void go() {
    d.says("One GOES to a PLACE: true; false, refused (2), when there is no way, or there are none such.");
    RisingSnow x = middle();
    d.due("go(2, 0)", x.go(2, 0), true);
    d.due("person(2, 0)", x.person(2, 0), 0);
    d.due("the others stay", x.person(0, 0) + x.person(1, 0), 0);
    d.due("has(8)", x.has(8), 3);
    d.due("status(2)", x.status(2), 0);
    Twins.refused("no way", 2, y -> y.go(0, 2));
    Twins.refused("to where he is", 2, y -> y.go(0, 0));
    Twins.refused("person 3", 2, y -> y.go(3, 1));
    Twins.refused("person -1", 2, y -> y.go(-1, 1));
    Twins.refused("place 3", 2, y -> y.go(0, 3));
    Twins.refused("place -1", 2, y -> y.go(0, -1));
    for (int n : FAR) {
      Twins.refused("person " + n, 2, y -> y.go(n, 1));
      Twins.refused("place " + n, 2, y -> y.go(0, n));
    }
  }

  static void nights() {
    d.says("n NIGHTS (1 .. 100): how many were FORGOTTEN; NONE, refused (3), when it can't be.");
    RisingSnow x = d.told("place a;person p at a;person q at a;thing t weighs 1;thing u weighs 1;knows p t 1;knows p u 99;knows q t 50;fade points-1;");
    d.due("nights(1)", x.nights(1), 1);
    d.due("nights(100)", x.nights(100), 2);
    d.due("has(3)", x.has(3), 101);
    d.due("has(8)", x.has(8), 2);
    d.due("undo()", x.undo(), true);
    d.due("one ACT", x.has(3), 1);
    d.due("status(3)", x.status(3), 0);
    for (int n : new int[] {Integer.MIN_VALUE, -100, -1, 0, 101, 102, 10000, Integer.MAX_VALUE}) {
      Twins.refused("nights(" + n + ")", 3, y -> y.nights(n));
    }
    lastDays(true);
  }

  static void days() {
    d.says("n DAYS by the seed (1 .. 100), one ACT: how many were FORGOTTEN; NONE, refused (3), when it can't be.");
    RisingSnow x = d.told("place a;person p at a;person q at a;thing t weighs 1;thing u weighs 1;knows p t 1;knows p u 99;knows q t 50;fade points-1;");
    d.due("days(1)", x.days(1), 1);
    d.due("days(100)", x.days(100), 2);
    d.due("has(3)", x.has(3), 101);
    d.due("has(8)", x.has(8), 2);
    d.due("undo()", x.undo(), true);
    d.due("one ACT", x.has(3), 1);
    d.due("status(3)", x.status(3), 0);
    for (int n : new int[] {Integer.MIN_VALUE, -100, -1, 0, 101, 102, 10000, Integer.MAX_VALUE}) {
      Twins.refused("days(" + n + ")", 3, y -> y.days(n));
    }
    x = d.told("place a;place b;place c;place d;place e;place f;thing t weighs 1;rise 5;");
    d.on(x, 0, new int[][] {}, new int[][] {{0, 0, 99, 98, 97, 96, 95, 94}});
    d.due("days(3)", x.days(3), 0);
    for (int place = 0; place < 6; place++) {
      d.due("it rises in each place by these nights: " + place, x.lies(place, 0), 84 - place);
    }
    d.due("has(6)", x.has(6), 90);
    lastDays(false);
  }

  /** Nights or days up to DAY 9999 and one beyond. */
  static void lastDays(boolean nights) {
    for (int left : new int[] {0, 1, 99, 100, 101}) {
      RisingSnow x = d.told("busy 100;");
      d.on(x, 9999 - left, new int[][] {}, new int[][] {});
      int beyond = nights ? x.nights(left + 1) : x.days(left + 1);
      none("beyond DAY 9999", beyond);
      d.due("status(3)", x.status(3), 1);
      d.due("all stays", x.has(3) + x.has(8), 9999 - left);
      int most = Math.min(left, 100);
      if (most > 0) {
        d.due("up to it", nights ? x.nights(most) : x.days(most), 0);
        d.due("has(3)", x.has(3), 9999 - left + most);
        d.due("has(8)", x.has(8), 1);
      }
    }
  }

  static void undo() {
    d.says("The latest ACT is undone (the seed stays): true; false, refused (4), when none can be.");
    RisingSnow x = middle();
    d.due("has(8)", x.has(8), 2);
    d.due("undo()", x.undo(), true);
    d.due("has(3)", x.has(3), 3);
    d.due("undo()", x.undo(), true);
    d.due("has(3)", x.has(3), 0);
    d.due("status(4)", x.status(4), 0);
    d.due("undo()", x.undo(), false);
    d.due("status(4)", x.status(4), 1);
    d.due("undo()", x.undo(), false);
    d.due("status(4)", x.status(4), 2);
    d.due("has(3)", x.has(3), 0);
    undoneWhole();
    Twins.refusedBy(y -> {
      y.undo();
      y.undo();
    }, "undo", 4, y -> y.undo());
    Twins.seedOfUndone();
  }

  /** Each ACT changes something of what is seen, and all of it is again as it was when it is undone. */
  static void undoneWhole() {
    RisingSnow x = d.told("place a;place b;place c;way a b takes 3;person p at a;person q at a;person r at b;thing t weighs 9;thing u weighs 3 from t;"
        + "thing v weighs 8;knows p t 9;knows p u 3;knows q t 2;knows r v 1;knows q v 4;say points+7;hear points+3;fade points-1;rise 2;busy 100;");
    x.image();
    Acts[] acts = {y -> y.nights(1), y -> y.say(0, 0), y -> y.nights(4), y -> y.take(0, 2), y -> y.go(0, 1), y -> y.days(9), y -> y.go(2, 0), y -> y.nights(40)};
    String[] ahead = new String[acts.length];
    for (int i = 0; i < acts.length; i++) {
      ahead[i] = Twins.all(x, -1, true);
      acts[i].of(x);
      d.due("an ACT more", x.has(8), i + 1);
      d.due("it is another state", Twins.all(x, -1, true).equals(ahead[i]), false);
    }
    d.due("something is GONE", x.has(6) > 9, true);
    d.due("all three are LOST", x.thing(0, 4) > 0 && x.thing(1, 4) > 0 && x.thing(2, 4) > 0, true);
    for (int i = acts.length - 1; i >= 0; i--) {
      d.due("undo()", x.undo(), true);
      d.due("all is as it was ahead of ACT " + i, Twins.all(x, -1, true).equals(ahead[i]), true);
    }
  }

  static void seed() {
    d.says("The seed: true; false, refused (5), when it is below 0. (It is 1 at first.)");
    RisingSnow x = new RisingSnow();
    d.due("seed(0)", x.seed(0), true);
    d.due("seed(1)", x.seed(1), true);
    d.due("seed(max)", x.seed(Integer.MAX_VALUE), true);
    d.due("status(5)", x.status(5), 0);
    d.due("seed(-1)", x.seed(-1), false);
    d.due("seed(min)", x.seed(Integer.MIN_VALUE), false);
    d.due("status(5)", x.status(5), 2);
    Twins.refused("seed(-1)", 5, y -> y.seed(-1));
    Twins.refused("seed(min)", 5, y -> y.seed(Integer.MIN_VALUE));
    d.due("1 at first", Twins.dayBySeed(-1), Twins.dayBySeed(1));
    d.due("not 0", Twins.dayBySeed(-1) != Twins.dayBySeed(0), true);
    d.due("not 2", Twins.dayBySeed(-1) != Twins.dayBySeed(2), true);
    d.due("the largest", Twins.dayBySeed(Integer.MAX_VALUE) != Twins.dayBySeed(-1), true);
  }

  static void status() {
    d.says("How many were refused: 0 feed(), end(); 1 valley(), whose(); 2 say(), take(), go(); 3 nights(), days(); 4 undo(); 5 seed(), on(). NONE for others.");
    RisingSnow x = new RisingSnow();
    for (int what = 0; what < 6; what++) {
      d.due("at first", x.status(what), 0);
    }
    none("status(-1)", x.status(-1));
    none("status(6)", x.status(6));
    for (int what : FAR) {
      none("status(" + what + ")", x.status(what));
    }
    Twins.refused("end(21)", 0, y -> y.end(21));
    Twins.refused("end(-1)", 0, y -> y.end(-1));
    Twins.refusedBy(y -> {
      for (int i = 0; i < 79; i++) {
        y.feed(0, 0, 0, 0, 0);
      }
    }, "feed", 0, y -> y.feed(1, 1, 1, 1, 1));
    Twins.takesTheTape("valley()", 1, "busy 101;", y -> y.valley());
    Twins.takesTheTape("whose()", 1, "", y -> y.whose());
    Twins.takesTheTape("whose()", 1, Due.bytes(3), y -> y.whose());
    Twins.takesTheTape("whose()", 1, Due.bytes(0, 0, 0, 0, 0, 0, 0, 0, 0, 0, 0), y -> y.whose());
    Twins.takesTheTape("on()", 5, "", y -> y.on());
    Twins.takesTheTape("on()", 5, Due.image(0, new int[][] {}, new int[][] {}), y -> y.on());
    Twins.takesTheTape("ask(3)", -1, "often all", y -> y.ask(3));
    Twins.takesTheTape("whose()", -1, Due.bytes(0), y -> y.whose());
    answersOnly();
  }

  /** Calls that ask alone: they leave all as it was, and none of them is refused, also with NONE. */
  static void answersOnly() {
    for (int n = -2; n <= 41; n += n < 4 || n > 37 ? 1 : 34) {
      int k = n;
      Twins.refused("has " + k, -1, y -> y.has(k));
      Twins.refused("fault, status, octet " + k, -1, y -> y.fault(k) + y.status(k) + y.octet(k));
      Twins.refused("letter, thing " + k, -1, y -> y.letter(k, 0, 0) + y.letter(0, k, 0) + y.letter(0, 0, k) + y.thing(k, 0) + y.thing(0, k));
      Twins.refused("person, points " + k, -1, y -> y.person(k, 0) + y.person(0, k) + y.points(k, 0) + y.points(0, k));
      Twins.refused("lies, way " + k, -1, y -> y.lies(k, 0) + y.lies(0, k) + y.way(k, 0) + y.way(0, k));
      Twins.refused("later, forgets, breaks " + k, -1, y -> y.later(0, 0, k) + y.later(k, 0, 1) + y.later(0, k, 1) + y.forgets(k) + y.breaks(k));
      Twins.refused("keep " + k, -1, y -> y.keep(0, 1, k, 0) + y.keep(0, k, 3, 1) + y.keep(k, 1, 3, 1) + y.keep(0, 1, 2, k));
      Twins.refused("best, shovel " + k, -1, y -> y.best(0, k, 0) + y.best(k, 3, 0) + y.best(0, 3, k) + y.shovel(k, 1, 0) + y.shovel(3, k, 0) + y.shovel(3, 1, k));
      Twins.refused("route, against " + k, -1, y -> y.route(k, 1, -1) + y.route(0, k, -1) + y.route(0, 1, k) + y.against(0, 0, k) + y.against(k, 0, 1) + y.against(0, k, 1));
    }
  }

  interface Call {
    Object of(RisingSnow x);
  }

  interface Acts {
    void of(RisingSnow x);
  }

  /** Two objects with the same calls, but for one: what they answer then must be the same. */
  static final class Twins {
    static void refused(String name, int counter, Call call) {
      refusedBy(x -> { }, name, counter, call);
    }

    /** The call leaves all as it was, and is counted (counter -1: is not counted). */
    static void refusedBy(Acts ahead, String name, int counter, Call call) {
      RisingSnow x = middle();
      RisingSnow y = middle();
      Due.feed(x, "often number>0 and t");
      Due.feed(y, "often number>0 and t");
      ahead.of(x);
      ahead.of(y);
      answer(name, counter, call.of(x));
      same(name, x, y, counter, true);
    }

    /** The same of a call that takes the tape. */
    static void takesTheTape(String name, int counter, String tape, Call call) {
      RisingSnow x = middle();
      RisingSnow y = middle();
      Due.feed(x, tape);
      answer(name, counter, call.of(x));
      same(name, x, y, counter, !name.startsWith("valley"));
    }

    static void answer(String name, int counter, Object answer) {
      if (counter >= 0) {
        d.due(name + " is refused", answer.equals(-1) || answer.equals(false), true);
      }
    }

    static void same(String name, RisingSnow x, RisingSnow y, int counter, boolean faults) {
      for (int what = 0; what < 6; what++) {
        d.due(name + " is counted, status(" + what + ")", x.status(what), y.status(what) + (what == counter ? 1 : 0));
      }
      boolean same = all(x, counter, faults).equals(all(y, counter, faults)) && tape(x).equals(tape(y)) && acts(x).equals(acts(y));
      d.due(name + " leaves all as it was", same, true);
    }

    /** What can be seen without a change; refusals only of others than the counter's. */
    static String all(RisingSnow x, int counter, boolean faults) {
      StringBuilder b = new StringBuilder();
      for (int i = 0; i <= 8; i++) {
        b.append(x.has(i)).append(' ').append(i == counter ? 0 : x.status(i)).append(' ').append(faults ? x.fault(i) : 0).append(' ');
      }
      for (int i = 0; i < 4; i++) {
        for (int k = 0; k < 5; k++) {
          b.append(x.points(i, k)).append(' ').append(x.lies(i, k)).append(' ').append(x.thing(i, k)).append(' ').append(x.person(i, k)).append(' ');
        }
        b.append(x.way(0, i)).append(' ').append(x.letter(i, 0, 0)).append(' ').append(x.later(0, 0, i)).append(' ');
      }
      for (int k = 0; k <= 42; k++) {
        b.append(x.octet(k)).append(' ');
      }
      return b.toString();
    }

    /** What the tape is, told by its fault as a question. */
    static String tape(RisingSnow x) {
      return x.ask(0) + " " + x.fault(0) + " " + x.fault(1) + " " + x.feed(0, 0, 0, 0, 0);
    }

    /** What ACTS are undone, and what the seed does. */
    static String acts(RisingSnow x) {
      StringBuilder b = new StringBuilder();
      b.append(x.days(20)).append(' ').append(points(x)).append(x.undo()).append(' ');
      for (int i = 0; i < 3; i++) {
        b.append(x.undo()).append(' ').append(x.has(3)).append(' ').append(points(x));
      }
      return b.toString();
    }

    static String points(RisingSnow x) {
      StringBuilder b = new StringBuilder();
      for (int i = 0; i < 9; i++) {
        b.append(x.points(i / 3, i % 3)).append(' ');
      }
      return b.toString();
    }

    static final String DRAWN = "place a;person m at a;person n at a;person o at a;thing t weighs 1;thing u weighs 1;thing v weighs 1;"
        + "knows m t 1;knows m u 1;knows m v 1;knows n t 1;knows n u 1;knows n v 1;knows o t 1;knows o u 1;knows o v 1;say points+1;busy 50;";

    /** What 30 days by a seed make of points, as one number; without a seed below 0. */
    static long dayBySeed(int seed) {
      RisingSnow x = d.told(DRAWN);
      if (seed >= 0) {
        d.due("seed(" + seed + ")", x.seed(seed), true);
      }
      x.days(30);
      return points(x).hashCode();
    }

    /** The same, with a valley told once more (or not) behind the seed. */
    static long valleyLater(int seed, int times) {
      RisingSnow x = d.told(DRAWN);
      x.seed(seed);
      for (int i = 0; i < times; i++) {
        Due.feed(x, DRAWN);
        x.valley();
      }
      x.days(30);
      return points(x).hashCode();
    }

    /** Days once undone and done again go on with the seed, as two days more would. */
    static void seedOfUndone() {
      RisingSnow x = d.told(DRAWN);
      RisingSnow y = d.told(DRAWN);
      x.days(30);
      d.due("undo()", x.undo(), true);
      x.days(30);
      y.seed(seedBehind(30));
      y.days(30);
      d.due("the seed stays", points(x).equals(points(y)), true);
      d.due("and is not what it was", points(x).hashCode() != dayBySeed(-1), true);
    }

    /** The seed behind so many days from 1 on, busy 50. */
    static int seedBehind(int days) {
      long s = 1;
      for (int i = 0; i < days; i++) {
        s = EdgeNightTest.next(s);
        s = s / 64 % 100 < 50 ? EdgeNightTest.next(EdgeNightTest.next(s)) : s;
      }
      return (int) s;
    }
  }
}
