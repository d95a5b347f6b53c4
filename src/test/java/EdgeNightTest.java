import java.io.IOException;

/** The edges of part II of the document, NIGHTS and ACTS: a test for each sentence that names one. */
public final class EdgeNightTest {
  static final String APT = "place a;person p at a;thing t weighs 4;";
  static Due d;

  public static void main(String[] args) throws IOException {
    d = new Due("EdgeNightTest", args);
    knowing();
    hangingAtFirst();
    fading();
    aheadOfTheNight();
    thingByThing();
    forgotten();
    lyingAtMost();
    losing();
    rising();
    goneAtMost();
    day();
    saying();
    hearing();
    catching();
    going();
    busyDays();
    daysWithoutSome();
    lastTwenty();
    draws();
    d.close();
  }

  static int[][] one(int... row) {
    return new int[][] {row};
  }

  static void knowing() {
    d.says("One KNOWS a THING, if he has points of it.");
    for (int points : new int[] {0, 1, 2, 99}) {
      int knows = points > 0 ? 1 : 0;
      RisingSnow x = d.told(APT + "knows p t " + points + ";");
      d.due("person(0, 1)", x.person(0, 1), knows);
      d.due("thing(0, 2)", x.thing(0, 2), knows);
      d.due("has(4)", x.has(4), knows);
      d.due("has(7)", x.has(7), 1 - knows);
      d.due("know", d.ask(x, 0, "total know"), knows);
      d.due("say(0, 0)", x.say(0, 0), knows - 1);
    }
  }

  static void hangingAtFirst() {
    d.says("(What hangs on a THING that he does not KNOW he may have points of at first; the first night takes it.)");
    RisingSnow x = d.told(APT + "thing u weighs 3 from t;knows p u 50;rise 0;");
    d.due("points(0, 1)", x.points(0, 1), 50);
    d.due("he may say it", x.say(0, 1), 0);
    d.due("later(0, 1, 0)", x.later(0, 1, 0), 99);
    d.due("later(0, 1, 1)", x.later(0, 1, 1), 0);
    d.due("nights(1)", x.nights(1), 1);
    d.due("points(0, 1)", x.points(0, 1), 0);
    d.due("lies(0, 1)", x.lies(0, 1), 3);
    x = d.told(APT + "thing u weighs 3 from t;knows p t 1;knows p u 50;rise 0;");
    d.due("nights(100)", x.nights(100), 0);
    d.due("points(0, 1)", x.points(0, 1), 50);
  }

  static void faded(String sum, int points, int due) {
    RisingSnow x = d.told(APT + "knows p t " + points + ";fade " + sum + ";");
    d.due("nights(1) by fade " + sum, x.nights(1), points > 0 && due == 0 ? 1 : 0);
    d.due("fade " + sum, x.points(0, 0), due);
  }

  static void fading() {
    d.says("each one's points of each THING that he KNOWS become the SUM of fade");
    faded("points-1", 2, 1);
    faded("points+1", 1, 2);
    faded("50", 1, 50);
    faded("50", 0, 0);
    faded("points+5", 0, 0);
    d.says("0 .. 99 (below is 0, above 99;");
    faded("1", 50, 1);
    faded("0", 50, 0);
    faded("points-51", 50, 0);
    faded("0-9999", 50, 0);
    faded("98", 50, 98);
    faded("99", 50, 99);
    faded("100", 50, 99);
    faded("points+1", 99, 99);
    faded("9999", 50, 99);
    faded("9999*9999", 50, 99);
    d.says("above 99; as they are without)");
    RisingSnow x = d.told(APT + "person q at a;thing u weighs 1;knows p t 99;knows p u 1;");
    d.due("nights(100)", x.nights(100), 0);
    d.due("points(0, 0)", x.points(0, 0), 99);
    d.due("points(0, 1)", x.points(0, 1), 1);
    d.due("points(1, 0)", x.points(1, 0), 0);
  }

  static void aheadOfTheNight() {
    d.says("all by what is ahead of the NIGHT");
    // p forgets t in this night, which q's fading does not see; nor does it see the DAY that comes
    RisingSnow x = d.told(APT + "person q at a;knows p t 1;knows q t 50;fade points-know*10+day;");
    d.due("nights(1)", x.nights(1), 1);
    d.due("points(1, 0)", x.points(1, 0), 30);
    d.due("nights(1)", x.nights(1), 0);
    d.due("points(1, 0)", x.points(1, 0), 21);
  }

  static void thingByThing() {
    d.says("THING by THING: his points are 0, if it hangs on one that he does not KNOW");
    String chain = "place a;person p at a;person q at a;thing r weighs 1;thing s weighs 2 from r;thing t weighs 3 from s;thing u weighs 4 from r t;"
        + "knows p r 1;knows p s 90;knows p t 90;knows p u 90;knows q r 9;knows q s 9;knows q t 9;knows q u 1;rise 0;";
    RisingSnow x = d.told(chain + "fade points-1;");
    d.due("r, and s, t, u by it, in one night; u of q", x.nights(1), 5);
    d.due("person(0, 1)", x.person(0, 1), 0);
    d.due("person(1, 1)", x.person(1, 1), 7);
    d.due("lies(0, -1)", x.lies(0, -1), 14);
    x = d.told("place a;person p at a;thing r weighs 1;thing s weighs 2;thing t weighs 3 from r s;knows p r 9;knows p t 9;");
    d.due("one of two is enough", x.nights(1), 1);
    d.due("person(0, 1)", x.person(0, 1), 1);
    x = d.told("place a;person p at a;thing r weighs 1;thing s weighs 2 from r;knows p r 9;knows p s 9;fade points-10+hangs*50;");
    d.due("what fade leaves goes, too", x.nights(1), 2);
    d.due("points(0, 1)", x.points(0, 1), 0);
  }

  static void forgotten() {
    d.says("What he KNEW ahead of the NIGHT and KNOWS no more is FORGOTTEN: as much as it weighs lies where he is");
    for (int weighs = 1; weighs <= 9; weighs += 4) {
      RisingSnow x = d.told("place a;place b;person p at b;person q at a;thing t weighs " + weighs + ";knows p t 2;fade points-1;rise 0;");
      d.due("nights(1)", x.nights(1), 0);
      d.due("lies(1, 0)", x.lies(1, 0), 0);
      d.due("nights(1)", x.nights(1), 1);
      d.due("lies(1, 0)", x.lies(1, 0), weighs);
      d.due("lies(0, 0)", x.lies(0, 0), 0);
      d.due("not once more", x.nights(5), 0);
      d.due("lies(1, 0)", x.lies(1, 0), weighs);
      d.due("has(5)", x.has(5), weighs);
      d.due("take(0, 0)", x.take(0, 0), true);
      d.due("lies(1, 0)", x.lies(1, 0), 0);
      d.due("29 nights from 30 on", x.nights(29), 0);
      d.due("once more, when he KNEW it again", x.nights(1), 1);
      d.due("lies(1, 0)", x.lies(1, 0), weighs);
      d.due("who LOST it", x.thing(0, 4), 1);
    }
  }

  static void lyingAtMost() {
    d.says("(999 of a THING at most in a PLACE, what is more is lost)");
    String text = "place a;place b;person p at a;person q at a;thing t weighs 9;thing u weighs 9;fade 0;rise 0;";
    int[][] lay = {{0, 9}, {989, 998}, {990, 999}, {991, 999}, {999, 999}};
    for (int[] row : lay) {
      RisingSnow x = d.told(text);
      d.on(x, 0, new int[][] {{0, 1, 1}, {0, 0, 0}}, new int[][] {{0, 7, row[0], 5}, {0, 0, 980, 0}});
      d.due("nights(1)", x.nights(1), 2);
      d.due("lies(0, 0)", x.lies(0, 0), row[1]);
      d.due("of another thing", x.lies(0, 1), 989);
      d.due("in another place", x.lies(1, 0), 5);
      d.due("of all together", x.lies(0, -1), row[1] + 989);
      d.due("what is more is not gone", x.thing(0, 3), 7);
    }
    RisingSnow x = d.told(text);
    d.on(x, 0, new int[][] {{0, 1, 0}, {0, 1, 0}}, new int[][] {{0, 0, 985, 0}, {0, 0, 0, 0}});
    d.due("two forget it", x.nights(1), 2);
    d.due("lies(0, 0)", x.lies(0, 0), 999);
    x = d.told(text.replace("rise 0", "rise 1"));
    d.on(x, 0, new int[][] {{0, 1, 0}, {0, 0, 0}}, new int[][] {{0, 0, 999, 0}, {0, 0, 0, 0}});
    d.due("what is more is lost ahead of rising", x.nights(1), 1);
    d.due("lies(0, 0)", x.lies(0, 0), 998);
  }

  static void losing() {
    d.says("he is one who LOST it");
    RisingSnow x = d.told("place a;person m at a;person n at a;person o at a;person p at a;person q at a;person r at a;thing t weighs 1;thing u weighs 1;"
        + "knows m t 1;knows r t 1;knows o t 2;knows o u 9;fade points-1;rise 0;");
    d.due("thing(0, 4)", x.thing(0, 4), 0);
    d.due("nights(1)", x.nights(1), 2);
    d.due("the first and the sixth", x.thing(0, 4), 33);
    d.due("nights(1)", x.nights(1), 1);
    d.due("thing(0, 4)", x.thing(0, 4), 37);
    d.due("thing(1, 4)", x.thing(1, 4), 0);
    d.due("take(0, 0)", x.take(0, 0), true);
    d.due("who knows it again", x.thing(0, 4), 37);
  }

  static void rose(String rise, int lay, int gone) {
    RisingSnow x = d.told(APT + rise);
    d.on(x, 2, one(0, 0), one(0, 0, lay));
    d.due("nights(1)", x.nights(1), 0);
    d.due("gone by " + rise, x.thing(0, 3), gone);
    d.due("lies by " + rise, x.lies(0, 0), lay - gone);
  }

  static void rising() {
    d.says("of each THING in each PLACE the SUM of rise, 0 .. what lies there");
    rose("rise 0-1;", 5, 0);
    rose("rise 0-9999;", 5, 0);
    rose("rise 0;", 5, 0);
    rose("rise 1;", 5, 1);
    rose("rise 4;", 5, 4);
    rose("rise 5;", 5, 5);
    rose("rise 6;", 5, 5);
    rose("rise 9999*9999;", 999, 999);
    rose("rise 5;", 0, 0);
    rose("rise lies;", 999, 999);
    rose("rise lies+1;", 1, 1);
    d.says("(1, if something lies, without)");
    rose("", 0, 0);
    rose("", 1, 1);
    rose("", 2, 1);
    rose("", 999, 1);
    d.says("so much is GONE of it");
    RisingSnow x = d.told("place a;place b;thing t weighs 1;thing u weighs 1;rise lies/2;");
    d.on(x, 0, new int[][] {}, new int[][] {{0, 100, 10, 20}, {0, 0, 0, 7}});
    d.due("nights(1)", x.nights(1), 0);
    d.due("in both places", x.thing(0, 3), 115);
    d.due("of another", x.thing(1, 3), 3);
    d.due("has(6)", x.has(6), 118);
    d.due("has(5)", x.has(5), 19);
  }

  static void goneAtMost() {
    d.says("GONE of it (9999 at most)");
    int[][] rows = {{9990, 8, 9998}, {9990, 9, 9999}, {9990, 10, 9999}, {9999, 1, 9999}, {9999, 999, 9999}, {9000, 999, 9999}, {9001, 999, 9999}};
    for (int[] row : rows) {
      RisingSnow x = d.told(APT + "rise lies;");
      d.on(x, 0, one(0, 0), one(0, row[0], row[1]));
      d.due("nights(1)", x.nights(1), 0);
      d.due("thing(0, 3)", x.thing(0, 3), row[2]);
      d.due("it rises all the same", x.lies(0, 0), 0);
    }
    RisingSnow x = d.told("thing t weighs 1;thing u weighs 1;");
    d.on(x, 0, new int[][] {}, new int[][] {{0, 9999}, {0, 9999}});
    d.due("of all things together", x.has(6), 19998);
  }

  static void day() {
    d.says("The DAY is one more (9999 at most; 0 at first)");
    RisingSnow x = d.told(APT);
    d.due("at first", x.has(3), 0);
    d.due("nights(1)", x.nights(1), 0);
    d.due("has(3)", x.has(3), 1);
    d.due("days(2)", x.days(2), 0);
    d.due("has(3)", x.has(3), 3);
    for (int i = 0; i < 99; i++) {
      x.nights(100);
    }
    d.due("has(3)", x.has(3), 9903);
    d.due("one too many", x.nights(97), -1);
    d.due("nights(96)", x.nights(96), 0);
    d.due("has(3)", x.has(3), 9999);
    d.due("none behind it", x.nights(1), -1);
    d.due("none behind it", x.days(1), -1);
    d.due("has(3)", x.has(3), 9999);
  }

  static void said(String say, int points, int due) {
    RisingSnow x = d.told(APT + "knows p t " + points + ";" + say);
    d.due("say(0, 0)", x.say(0, 0), 0);
    d.due("by " + say, x.points(0, 0), due);
  }

  static void saying() {
    d.says("SAID is a THING by one who KNOWS it");
    RisingSnow x = d.told(APT + "thing u weighs 1;knows p u 1;");
    d.due("say(0, 0)", x.say(0, 0), -1);
    d.due("say(0, 1)", x.say(0, 1), 0);
    d.says("his points become the SUM of say, no less than they were, 99 at most");
    said("say 49;", 50, 50);
    said("say 50;", 50, 50);
    said("say 51;", 50, 51);
    said("say 0;", 1, 1);
    said("say 0-9999;", 1, 1);
    said("say points-1;", 99, 99);
    said("say 98;", 50, 98);
    said("say 99;", 50, 99);
    said("say 100;", 50, 99);
    said("say points+1;", 99, 99);
    said("say 9999;", 50, 99);
    d.says("99 at most (99 without)");
    said("", 1, 99);
    said("", 99, 99);
    said("hear 5;", 50, 99);
  }

  static void heard(String hear, int points, int due) {
    RisingSnow x = d.told(APT + "person q at a;knows p t 60;say points;knows q t " + points + ";" + hear);
    d.due("say(0, 0)", x.say(0, 0), 1);
    d.due("by " + hear, x.points(1, 0), due);
    d.due("who said it", x.points(0, 0), 60);
  }

  static void hearing() {
    d.says("the SUM of hear, no less than they were, 99 at most");
    heard("hear 49;", 50, 50);
    heard("hear 50;", 50, 50);
    heard("hear 51;", 50, 51);
    heard("hear 0;", 0, 0);
    heard("hear 1;", 0, 1);
    heard("hear 0-1;", 0, 0);
    heard("hear 98;", 0, 98);
    heard("hear 99;", 0, 99);
    heard("hear 100;", 0, 99);
    heard("hear points+1;", 99, 99);
    d.says("99 at most (as they were without)");
    heard("", 0, 0);
    heard("", 1, 1);
    heard("", 99, 99);
    d.says("of each other one in his PLACE who KNOWS all it hangs on");
    RisingSnow x = d.told("place a;place b;person m at a;person n at b;person o at a;person p at a;thing r weighs 1;thing s weighs 1;thing t weighs 1 from r s;"
        + "knows m r 1;knows m s 1;knows n r 1;knows n s 1;knows n t 7;knows o r 1;knows p r 1;knows p s 1;knows p t 5;say points;hear points+9;");
    d.due("say(3, 2)", x.say(3, 2), 1);
    d.due("who knows all", x.points(0, 2), 9);
    d.due("elsewhere", x.points(1, 2), 7);
    d.due("who knows one of two", x.points(2, 2), 0);
    d.due("himself", x.points(3, 2), 5);
    d.due("what hangs on nothing", x.say(3, 0), 2);
    d.due("alone", x.say(1, 2), 0);
    d.says("then, by numbers, of each other one");
    x = d.told("place a;person m at a;person n at a;person o at a;person p at a;thing t weighs 1;knows n t 5;say know*10;hear know*10;");
    d.due("say(1, 0)", x.say(1, 0), 3);
    d.due("he first, alone", x.points(1, 0), 10);
    d.due("then m, by one who knows it", x.points(0, 0), 10);
    d.due("then o, by two", x.points(2, 0), 20);
    d.due("then p, by three", x.points(3, 0), 30);
  }

  static void catching() {
    d.says("CAUGHT is a THING by one in whose PLACE some of it lies");
    RisingSnow x = d.told("place a;place b;person p at a;thing t weighs 4;thing u weighs 1;");
    d.on(x, 0, one(0, 0, 0), new int[][] {{0, 0, 0, 9}, {0, 0, 1, 0}});
    d.due("it lies elsewhere", x.take(0, 0), false);
    d.due("one lies", x.take(0, 1), true);
    d.due("none more lies", x.take(0, 1), false);
    d.says("and who KNOWS all it hangs on: as much as it weighs lies there less");
    x = d.told("place a;person p at a;person q at a;person r at a;thing s weighs 1;thing t weighs 1;thing u weighs 3 from s t;");
    d.on(x, 0, new int[][] {{0, 1, 1, 0}, {0, 1, 0, 0}, {0, 0, 0, 5}}, new int[][] {{0, 0, 0}, {0, 0, 0}, {0, 0, 9}});
    d.due("who knows one of two", x.take(1, 2), false);
    d.due("who knows itself alone", x.take(2, 2), false);
    d.due("who knows both", x.take(0, 2), true);
    d.due("points(0, 2)", x.points(0, 2), 30);
    d.says("as much as it weighs lies there less (all, if there is less)");
    int[][] rows = {{1, 0}, {3, 0}, {4, 0}, {5, 1}, {999, 995}};
    for (int[] row : rows) {
      x = d.told("place a;place b;person p at a;thing t weighs 4;thing u weighs 4;");
      d.on(x, 0, one(0, 0, 0), new int[][] {{0, 6, row[0], 8}, {0, 0, 7, 0}});
      d.due("take(0, 0)", x.take(0, 0), true);
      d.due("lies(0, 0)", x.lies(0, 0), row[1]);
      d.due("elsewhere", x.lies(1, 0), 8);
      d.due("of another", x.lies(0, 1), 7);
      d.due("it is not gone", x.thing(0, 3), 6);
    }
    d.says("his points become catch, if they were less");
    int[][] points = {{0, 50, 50}, {1, 50, 50}, {49, 50, 50}, {50, 50, 50}, {51, 50, 51}, {99, 50, 99}, {98, 99, 99}, {0, 1, 1}, {2, 1, 2}};
    for (int[] row : points) {
      x = d.told(APT + "catch " + row[1] + ";");
      d.on(x, 0, one(0, row[0]), one(0, 0, 5));
      d.due("take(0, 0)", x.take(0, 0), true);
      d.due("points(0, 0)", x.points(0, 0), row[2]);
      d.due("lies(0, 0)", x.lies(0, 0), 1);
    }
  }

  static void going() {
    d.says("One GOES to a PLACE to which there is a way from his.");
    RisingSnow x = d.told("place a;place b;place c;place d;place e;place f;way a f takes 99;way b c takes 1;person p at a;");
    for (int place = 0; place < 5; place++) {
      d.due("go(0, " + place + ")", x.go(0, place), false);
    }
    d.due("go(0, 5)", x.go(0, 5), true);
    d.due("person(0, 0)", x.person(0, 0), 5);
    d.due("to where he is", x.go(0, 5), false);
    d.due("to the next but one", x.go(0, 1), false);
    d.due("and back", x.go(0, 0), true);
    d.due("person(0, 0)", x.person(0, 0), 0);
  }

  /** Whether a day by a seed was one on which it was said. */
  static boolean saidBy(int seed, int busy) {
    RisingSnow x = d.told(APT + "knows p t 1;say 50;busy " + busy + ";");
    d.due("seed(" + seed + ")", x.seed(seed), true);
    d.due("days(1)", x.days(1), 0);
    return x.points(0, 0) == 50;
  }

  static void busyDays() {
    d.says("for each a DRAW of 100: below busy");
    // the first DRAWS of 100: of the seed 0 12345 / 64 is 192: 92; of 1 1103527590 / 64 is 17242618: 18;
    // of 2147483647 1043980748 / 64 is 16312199: 99
    d.due("92 is not below 92", saidBy(0, 92), false);
    d.due("92 is below 93", saidBy(0, 93), true);
    d.due("18 is not below 18", saidBy(1, 18), false);
    d.due("18 is below 19", saidBy(1, 19), true);
    d.due("99 is not below 99", saidBy(2147483647, 99), false);
    d.due("99 is below 100", saidBy(2147483647, 100), true);
    d.says("he says it, if he KNOWS it");
    RisingSnow x = d.told("place a;person p at a;thing t weighs 1;busy 100;");
    d.due("days(100)", x.days(100), 0);
    d.due("points(0, 0)", x.points(0, 0), 0);
    d.due("has(8)", x.has(8), 1);
    d.says("then a NIGHT. The last 20");
    x = d.told(APT + "knows p t 1;say 10;fade points-1;busy 100;");
    d.due("days(1)", x.days(1), 0);
    d.due("it is said ahead of the night", x.points(0, 0), 9);
    d.due("has(3)", x.has(3), 1);
  }

  static long next(long x) {
    return (1103515245L * x + 12345L) % 2147483648L;
  }

  /** By the seed's course: how many DRAWS a valley's day takes. */
  static void drawsOfADay(String text, int due) {
    for (int seed : new int[] {0, 1, 77777, 2147483647}) {
      RisingSnow x = d.told(text);
      x.seed(seed);
      d.due("days(1)", x.days(1), 0);
      long s = seed;
      for (int i = 0; i < due; i++) {
        s = next(s);
      }
      // in a valley with one THING, whose people each have points of their own, the next draws are seen
      Due.feed(x, "place a;person m at a;person n at a;person o at a;person p at a;person q at a;person r at a;thing t weighs 1;"
          + "knows m t 1;knows n t 1;knows o t 1;knows p t 1;knows q t 1;knows r t 1;say points+1;busy 100;");
      d.due("valley()", x.valley(), 16);
      int[] points = {1, 1, 1, 1, 1, 1};
      for (int i = 0; i < 12; i++) {
        s = next(next(s));
        points[(int) (s / 64 % 6)]++;
        s = next(s);
      }
      d.due("days(12)", x.days(12), 0);
      for (int p = 0; p < 6; p++) {
        d.due("points(" + p + ", 0)", x.points(p, 0), points[p]);
      }
    }
  }

  static void daysWithoutSome() {
    d.says("(without PEOPLE or THINGS no DRAW behind the first one)");
    drawsOfADay("place a;person p at a;busy 100;", 1);
    drawsOfADay("thing t weighs 1;busy 100;", 1);
    drawsOfADay("busy 100;", 1);
    drawsOfADay("", 1);
    d.says("below busy a DRAW of the PEOPLE, a DRAW of the THINGS");
    drawsOfADay("place a;person p at a;thing t weighs 1;busy 100;", 3);
    drawsOfADay("place a;person p at a;thing t weighs 1;busy 0;", 1);
  }

  static void lastTwenty() {
    d.says("The last 20 can be undone.");
    for (int acts : new int[] {0, 1, 19, 20, 21, 22, 40, 41}) {
      RisingSnow x = d.told("place a;place b;way a b takes 1;person p at a;");
      for (int i = 0; i < acts; i++) {
        d.due("nights(" + (i + 1) + ")", x.nights(i + 1), 0);
      }
      int undone = Math.min(20, acts);
      d.due("has(8)", x.has(8), undone);
      for (int i = acts; i > acts - undone; i--) {
        d.due("undo()", x.undo(), true);
        d.due("has(3)", x.has(3), i * (i - 1) / 2);
        d.due("has(8)", x.has(8), undone - (acts - i) - 1);
      }
      d.due("no more", x.undo(), false);
      d.due("has(3)", x.has(3), (acts - undone) * (acts - undone + 1) / 2);
      d.due("status(4)", x.status(4), 1);
      d.due("then acts are kept again", x.go(0, 1), true);
      d.due("has(8)", x.has(8), 1);
      d.due("undo()", x.undo(), true);
      d.due("person(0, 0)", x.person(0, 0), 0);
    }
    d.says("ACTS: a THING is SAID, CAUGHT; one GOES; NIGHTS; DAYS by the seed");
    RisingSnow x = d.told("place a;place b;way a b takes 1;person p at a;thing t weighs 1;thing u weighs 1;knows p t 5;knows p u 1;fade points-1;rise 0;");
    d.due("nights(1)", x.nights(1), 1);
    d.due("take(0, 1)", x.take(0, 1), true);
    d.due("say(0, 0)", x.say(0, 0), 0);
    d.due("go(0, 1)", x.go(0, 1), true);
    d.due("days(3)", x.days(3), 0);
    d.due("has(8)", x.has(8), 5);
    d.due("seed(5) is none", x.seed(5), true);
    d.due("image() is none", x.image(), 20);
    d.due("ask() is none", d.ask(x, 0, "often all"), 2);
    d.due("has(8)", x.has(8), 5);
    int[] points = {99, 99, 4, 4, 5};
    int[] places = {1, 0, 0, 0, 0};
    int[] lying = {0, 0, 0, 1, 0};
    int[] days = {1, 1, 1, 1, 0};
    for (int i = 0; i < 5; i++) {
      d.due("undo()", x.undo(), true);
      d.due("points(0, 0)", x.points(0, 0), points[i]);
      d.due("person(0, 0)", x.person(0, 0), places[i]);
      d.due("lies(0, 1)", x.lies(0, 1), lying[i]);
      d.due("has(3)", x.has(3), days[i]);
    }
    d.due("thing(1, 4)", x.thing(1, 4), 0);
    d.due("points(0, 1)", x.points(0, 1), 1);
  }

  static void draws() {
    d.says("x (the seed) becomes (1103515245 x + 12345) mod 2 to the 31; floor(x / 64) mod m");
    int[] seeds = {0, 1, 2, 1103515245, 2147483647, 2147483646, 1073741824, 123456789};
    for (int seed : seeds) {
      RisingSnow x = d.told("place a;person m at a;person n at a;person o at a;thing s weighs 1;thing t weighs 1;thing u weighs 1;thing v weighs 1;"
          + "knows m s 1;knows m t 1;knows m u 1;knows n t 1;knows n u 1;knows n v 1;knows o s 1;knows o v 1;say points+1;busy 60;");
      d.due("seed(" + seed + ")", x.seed(seed), true);
      int[][] points = {{1, 1, 1, 0}, {0, 1, 1, 1}, {1, 0, 0, 1}};
      java.math.BigInteger big = java.math.BigInteger.valueOf(seed);
      int[] m = {100, 3, 4};
      int[] drawn = new int[3];
      for (int day = 0; day < 60; day++) {
        for (int k = 0; k < 3 && (k == 0 || drawn[0] < 60); k++) {
          big = big.multiply(java.math.BigInteger.valueOf(1103515245)).add(java.math.BigInteger.valueOf(12345)).mod(java.math.BigInteger.TWO.pow(31));
          drawn[k] = big.divide(java.math.BigInteger.valueOf(64)).mod(java.math.BigInteger.valueOf(m[k])).intValue();
        }
        if (drawn[0] < 60 && points[drawn[1]][drawn[2]] > 0) {
          points[drawn[1]][drawn[2]]++;
        }
      }
      d.due("days(60)", x.days(60), 0);
      for (int i = 0; i < 12; i++) {
        d.due("points(" + i / 4 + ", " + i % 4 + ")", x.points(i / 4, i % 4), points[i / 4][i % 4]);
      }
    }
  }
}
