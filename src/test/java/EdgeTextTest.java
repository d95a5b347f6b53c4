import java.io.IOException;

/** The edges of part I of the document, a VALLEY's text: a test for each sentence that names one. */
public final class EdgeTextTest {
  static final String AB = "place a;place b;";
  static final String APT = "place a;person p at a;thing t weighs 1;";
  static final String OWN = "place way takes person at thing weighs from knows fade say hear rise catch breaks thief busy know day points hangs"
      + " lies number gone or and not all min max";
  static Due d;

  public static void main(String[] args) throws IOException {
    d = new Due("EdgeTextTest", args);
    statements();
    places();
    ways();
    people();
    things();
    hanging();
    knows();
    oneEach();
    settings();
    lastOfEach();
    withoutSettings();
    digits();
    partsOfSums();
    nameLength();
    ownWords();
    unlikeNames();
    toldAhead();
    blanks();
    firstAlongTheText();
    d.close();
  }

  static String many(String part, int times) {
    return part.repeat(times);
  }

  /** Statements that tell so many of a kind, by names of two letters. */
  static String row(String ahead, String behind, int count) {
    StringBuilder b = new StringBuilder();
    for (int i = 0; i < count; i++) {
      b.append(ahead).append(" x").append((char) ('a' + i)).append(behind).append(';');
    }
    return b.toString();
  }

  static void statements() {
    d.says("{ STATEMENT ; } (70 at most)");
    d.told("", 0);
    d.told(" \n ", 0);
    d.told("busy 1;", 1);
    d.told(many("busy 1;", 69), 69);
    d.told(many("busy 1;", 70), 70);
    d.told(many("busy 1;", 70) + " \n ", 70);
    d.told(AB + many("way a b takes 3;", 60) + "fade 1;say 1;hear 1;rise 1;catch 1;breaks 1;thief 1;busy 1;", 70);
    d.says("a 71st STATEMENT (whatever stands there), at its first byte");
    for (String wrong : new String[] {"busy 1;", "busy", ";", "7", "A", "?", "place abcdefg;", "fade (((((((1;", "" + (char) 228, "" + (char) 0}) {
      d.faulty(5, many("busy 1;", 70) + "|" + wrong);
      d.faulty(5, many("busy 1;", 70) + " \n|" + wrong);
    }
    d.faulty(5, many("fade 1;", 1) + many("busy 1;", 69) + "|fade 1;");
    d.faulty(1, many("busy 1;", 69) + "busy 1|");
    d.faulty(2, many("busy 1;", 69) + "busy |101;");
  }

  static void places() {
    d.says("place NAME (6 PLACES)");
    for (int count = 0; count <= 6; count++) {
      d.due("has(0)", d.told(row("place", "", count), count).has(0), count);
    }
    d.says("5 one too many of a kind");
    d.faulty(5, row("place", "", 6) + "|place y;");
    d.faulty(5, row("place", "", 6) + " |place");
    d.faulty(5, row("place", "", 6) + "|place xa;");
    d.faulty(5, row("place", "", 6) + "thing t weighs 1;|place at;");
  }

  static void ways() {
    d.says("way NAME NAME takes N (two unlike PLACES");
    d.faulty(3, AB + "way a |a takes 1;");
    d.faulty(3, AB + "way b |b");
    d.says("two unlike PLACES, both ways;");
    RisingSnow x = d.told(AB + "place c;way c a takes 7;");
    d.due("way(2, 0)", x.way(2, 0), 7);
    d.due("way(0, 2)", x.way(0, 2), 7);
    d.due("way(0, 1)", x.way(0, 1), -1);
    d.due("way(1, 2)", x.way(1, 2), -1);
    d.due("way(0, 0)", x.way(0, 0), -1);
    d.says("both ways; 1 .. 99;");
    d.due("takes 1", d.told(AB + "way a b takes 1;").way(0, 1), 1);
    d.due("takes 99", d.told(AB + "way a b takes 99;").way(0, 1), 99);
    d.faulty(2, AB + "way a b takes |0;");
    d.faulty(2, AB + "way a b takes |0000;");
    d.faulty(2, AB + "way a b takes |100;");
    d.faulty(2, AB + "way a b takes |9999;");
    d.says("1 .. 99; the last one of these two counts); person");
    x = d.told(AB + "place c;way a b takes 5;way a c takes 6;way b a takes 3;");
    d.due("way(0, 1)", x.way(0, 1), 3);
    d.due("way(1, 0)", x.way(1, 0), 3);
    d.due("way(0, 2)", x.way(0, 2), 6);
    x = d.told(AB + "way b a takes 3;way a b takes 99;");
    d.due("way(0, 1)", x.way(0, 1), 99);
    d.due("way(1, 0)", x.way(1, 0), 99);
  }

  static void people() {
    d.says("person NAME at NAME (a PLACE;");
    d.due("person(0, 0)", d.told(AB + "person p at b;").person(0, 0), 1);
    d.faulty(3, AB + "person p at |p;");
    d.faulty(3, AB + "person p at a;person q at |p;");
    d.faulty(3, AB + "thing t weighs 1;person q at |t;");
    d.faulty(3, "person q at |a;");
    d.says("(a PLACE; 6 PEOPLE)");
    for (int count = 0; count <= 6; count++) {
      d.due("has(1)", d.told("place a;" + row("person", " at a", count), count + 1).has(1), count);
    }
    d.faulty(5, "place a;" + row("person", " at a", 6) + "|person y at a;");
    d.faulty(5, "place a;" + row("person", " at a", 6) + "\n|person");
    d.faulty(5, "place a;" + row("person", " at a", 6) + "|person a at x;");
  }

  static void things() {
    d.says("thing NAME weighs N (1 .. 9;");
    d.due("weighs 1", d.told("thing t weighs 1;").thing(0, 0), 1);
    d.due("weighs 9", d.told("thing t weighs 9;").thing(0, 0), 9);
    d.faulty(2, "thing t weighs |0;");
    d.faulty(2, "thing t weighs |00;");
    d.faulty(2, "thing t weighs |10;");
    d.faulty(2, "thing t weighs |9999;");
    d.says("(1 .. 9; 10 THINGS)");
    for (int count = 0; count <= 10; count++) {
      d.due("has(2)", d.told(row("thing", " weighs 1", count), count).has(2), count);
    }
    d.faulty(5, row("thing", " weighs 1", 10) + "|thing y weighs 1;");
    d.faulty(5, row("thing", " weighs 1", 10) + " |thing");
    d.faulty(5, row("thing", " weighs 1", 10) + "|thing xa weighs 0;");
  }

  static void hanging() {
    d.says("then from NAME { NAME } if it hangs on others");
    d.due("hangs on none", d.told("thing t weighs 1;").thing(0, 1), 0);
    RisingSnow x = d.told(row("thing", " weighs 1", 9) + "thing y weighs 1 from xi xa xb xc xd xe xf xg xh;");
    d.due("hangs on nine", x.thing(9, 1), 511);
    d.due("hangs on none", x.thing(8, 1), 0);
    d.due("hangs on one", d.told(row("thing", " weighs 1", 9) + "thing y weighs 1 from xi;").thing(9, 1), 256);
    d.faulty(1, "thing t weighs 1;thing u weighs 1 from |;");
    d.faulty(1, "thing t weighs 1;thing u weighs 1 from |");
    d.says("(THINGS told ahead, unlike ones)");
    d.faulty(3, "thing t weighs 1 from |t;");
    d.faulty(3, "thing t weighs 1 from |u;thing u weighs 1;");
    d.faulty(3, APT + "thing u weighs 1 from |a;");
    d.faulty(3, APT + "thing u weighs 1 from |p;");
    d.faulty(3, APT + "thing u weighs 1 from t |a;");
    d.says("(or the same PLACE, a THING told in that row already), at it");
    d.faulty(3, "thing t weighs 1;thing u weighs 1 from t |t;");
    d.faulty(3, "thing t weighs 1;thing u weighs 1;thing v weighs 1 from t u |t;");
    d.faulty(3, row("thing", " weighs 1", 9) + "thing y weighs 1 from xi xa xb xc xd xe xf xg xh |xi;");
    d.faulty(3, row("thing", " weighs 1", 9) + "thing y weighs 1 from xi xa xb xc xd xe xf xg xh |y;");
    d.told("thing t weighs 1;thing u weighs 1 from t;thing v weighs 1 from t;");
    d.told(AB + "way a b takes 1;way b a takes 1;");
  }

  static void knows() {
    d.says("knows NAME NAME N (one of the PEOPLE, a THING,");
    d.faulty(3, APT + "knows |a t 1;");
    d.faulty(3, APT + "knows |t t 1;");
    d.faulty(3, APT + "knows |x t 1;");
    d.faulty(3, APT + "knows p |a 1;");
    d.faulty(3, APT + "knows p |p 1;");
    d.faulty(3, APT + "knows p |x 1;");
    d.says("a THING, 0 .. 99 points;");
    d.due("0 points", d.told(APT + "knows p t 0;").points(0, 0), 0);
    d.due("1 point", d.told(APT + "knows p t 1;").points(0, 0), 1);
    d.due("99 points", d.told(APT + "knows p t 99;").points(0, 0), 99);
    d.due("without", d.told(APT).points(0, 0), 0);
    d.faulty(2, APT + "knows p t |100;");
    d.faulty(2, APT + "knows p t |9999;");
    d.says("0 .. 99 points; the last one of these two counts)");
    String more = APT + "person q at a;thing u weighs 1;knows q t 3;knows p u 4;";
    RisingSnow x = d.told(more + "knows p t 99;knows p t 0;");
    d.due("the last, 0", x.points(0, 0), 0);
    d.due("of another", x.points(1, 0), 3);
    d.due("of another", x.points(0, 1), 4);
    d.due("the last, 99", d.told(more + "knows p t 5;knows p t 99;").points(0, 0), 99);
    d.due("the last of three", d.told(more + "knows p t 5;knows p t 9;knows p t 7;").points(0, 0), 7);
  }

  static void oneEach() {
    d.says("fade SUM, say SUM, hear SUM, rise SUM (one each)");
    d.told("rise 1;hear 1;say 1;fade 1;");
    d.says("(a second fade, say, hear, rise, too)");
    for (String word : "fade say hear rise".split(" ")) {
      d.told(word + " 1;");
      d.faulty(5, word + " 1;|" + word + " 1;");
      d.faulty(5, word + " 1;busy 1; |" + word);
      d.faulty(5, word + " 1;|" + word + " 12345;");
    }
    d.faulty(5, "fade 1;say 1;hear 1;rise 1;|fade 1;");
  }

  static void bounds(String word, int least, int most) {
    d.told(word + " " + least + ";");
    d.told(word + " " + most + ";");
    d.told(word + " " + (least + most) / 2 + ";");
    d.faulty(2, word + " |" + (most + 1) + ";");
    d.faulty(2, word + " |9999;");
    if (least > 0) {
      d.faulty(2, word + " |" + (least - 1) + ";");
    }
    d.faulty(1, word + " |-1;");
  }

  static void settings() {
    d.says("catch N (1 .. 99)");
    bounds("catch", 1, 99);
    d.due("catch 1", caught("catch 1;"), 1);
    d.due("catch 99", caught("catch 99;"), 99);
    d.says("breaks N (0 .. 999)");
    bounds("breaks", 0, 999);
    d.due("breaks 0", breaksAt("breaks 0;", 1), true);
    d.due("breaks 0", breaksAt("breaks 0;", 0), false);
    d.due("breaks 999", breaksAt("breaks 999;", 999), false);
    d.says("thief N (0 .. 99)");
    bounds("thief", 0, 99);
    d.due("thief 0", robbed("thief 0;", 1), true);
    d.due("thief 99", robbed("thief 99;", 99), false);
    d.says("busy N (0 .. 100)");
    bounds("busy", 0, 100);
    d.due("busy 0", daysWithSaying("busy 0;", 100), 0);
    d.due("busy 100", daysWithSaying("busy 100;", 98), 98);
  }

  static final int[][] ONE_UNKNOWN = {{0, 0}};

  /** His points of a THING that he has caught. */
  static int caught(String text) {
    RisingSnow x = d.told(APT + text);
    d.on(x, 0, ONE_UNKNOWN, new int[][] {{0, 0, 1}});
    d.due("take(0, 0)", x.take(0, 0), true);
    return x.points(0, 0);
  }

  /** Whether it breaks where so much lies. */
  static boolean breaksAt(String text, int lies) {
    RisingSnow x = d.told(APT + "rise 0;" + text);
    d.on(x, 0, ONE_UNKNOWN, new int[][] {{0, 0, lies}});
    return x.breaks(0) == 0;
  }

  /** Whether he keeps it a day against the thief. */
  static boolean robbed(String text, int points) {
    return d.told(APT + "say 0;knows p t " + points + ";" + text).against(0, 0, 1) == 1;
  }

  /** On how many of so many days it is said. */
  static int daysWithSaying(String text, int days) {
    RisingSnow x = d.told(APT + "say points+1;knows p t 1;" + text);
    d.due("days(" + days + ")", x.days(days), 0);
    return x.points(0, 0) - 1;
  }

  static void lastOfEach() {
    d.says("the last one of each counts");
    d.due("catch", caught("catch 5;catch 7;"), 7);
    d.due("catch", caught("catch 7;busy 0;catch 5;"), 5);
    d.due("breaks", breaksAt("breaks 8;breaks 9;", 9), false);
    d.due("breaks", breaksAt("breaks 9;breaks 8;", 9), true);
    d.due("thief", robbed("thief 49;thief 50;", 50), false);
    d.due("thief", robbed("thief 50;thief 49;", 50), true);
    d.due("busy", daysWithSaying("busy 0;busy 100;", 5), 5);
    d.due("busy", daysWithSaying("busy 100;busy 0;", 5), 0);
  }

  static void withoutSettings() {
    d.says("(30, 20, 10, 0 without)");
    d.due("catch", caught(""), 30);
    d.due("breaks", breaksAt("", 20), false);
    d.due("breaks", breaksAt("", 21), true);
    d.due("thief", robbed("", 10), false);
    d.due("thief", robbed("", 11), true);
    d.due("busy", daysWithSaying("", 100), 0);
    // the first DRAW of 100 by the seed 42 is 1250496027 / 64, 19539000: 0
    RisingSnow x = d.told(APT + "knows p t 1;");
    d.due("seed(42)", x.seed(42), true);
    d.due("days(1)", x.days(1), 0);
    d.due("0 is not below 0", x.points(0, 0), 1);
    x = d.told(APT + "knows p t 1;busy 1;");
    d.due("seed(42)", x.seed(42), true);
    d.due("days(1)", x.days(1), 0);
    d.due("0 is below 1", x.points(0, 0), 99);
    // a valley without them, told behind one with them, has what stands without
    x = d.told("catch 1;breaks 1;thief 1;busy 100;fade 0;say 0;hear 0;rise 0;");
    Due.feed(x, APT + "knows p t 11;");
    d.due("valley()", x.valley(), 4);
    d.due("thief", x.against(0, 0, 1), 1);
    d.due("fade", x.later(0, 0, 40), 11);
    d.due("days(100)", x.days(100), 0);
    d.due("busy", x.points(0, 0), 11);
    d.on(x, 0, ONE_UNKNOWN, new int[][] {{0, 0, 21}});
    d.due("breaks", x.breaks(0), 0);
    d.due("nights(1)", x.nights(1), 0);
    d.due("rise", x.lies(0, 0), 20);
    d.due("breaks", x.breaks(0), -1);
    d.due("take(0, 0)", x.take(0, 0), true);
    d.due("catch", x.points(0, 0), 30);
    d.due("say(0, 0)", x.say(0, 0), 0);
    d.due("say", x.points(0, 0), 99);
  }

  static void digits() {
    d.says("PART: N (1 to 4 digits)");
    for (String number : "0 9 10 99 100 999 1000 9999 0000 0001 09".split(" ")) {
      d.told("fade " + number + ";");
    }
    d.told(AB + "way a b takes 0001;thing t weighs 0009;catch 0099;breaks 0999;thief 0000;busy 0100;person p at a;knows p t 0099;");
    d.says("where a number is asked, a 5th digit at itself");
    d.faulty(1, AB + "way a b takes 0000|1;");
    d.faulty(1, "thing t weighs 0000|1;");
    d.faulty(1, APT + "knows p t 0000|1;");
    for (String word : "catch breaks thief busy fade say hear rise".split(" ")) {
      d.faulty(1, word + " 0000|1;");
      d.faulty(1, word + " 0000|123456789;");
      d.faulty(1, word + " 1234|5");
    }
    d.faulty(1, "fade 1+0000|0;");
    d.faulty(1, "fade (9999|9);");
    d.faulty(1, "place |12345;");
    d.faulty(1, "thing t |12345;");
    d.faulty(1, "fade 1 |12345;");
    d.says("2 a number that can't be, at it");
    d.faulty(2, "busy |101");
    d.faulty(2, "busy \n |101x");
    d.faulty(2, "busy |0101;");
    d.faulty(2, "catch |0000;");
  }

  static void partsOfSums() {
    d.says("weighs; know; day; ( SUM ) ; min ( SUM , SUM ) ; max ( SUM , SUM ) ; in fade, say, hear: points; hangs; in rise: lies.");
    for (String word : "fade say hear rise".split(" ")) {
      for (String part : "weighs know day (1) min(1,2) max(1,2) ((1)) min(max(1,2),(3))".split(" ")) {
        d.told(word + " " + part + ";");
        d.told(word + " 1-" + part + "*2;");
      }
      for (String part : "number gone all not[all] [1] song abcdefgh takes points(1) ) , < -1 ; first".split(" ")) {
        if (part.startsWith("points")) {
          d.faulty(1, word + (word.equals("rise") ? " |points(1);" : " points|(1);"));
        } else {
          d.faulty(1, word + " |" + part + ";");
          d.faulty(1, word + " 1+|" + part + ";");
        }
      }
      for (String part : "points hangs".split(" ")) {
        if (word.equals("rise")) {
          d.faulty(1, "rise |" + part + ";");
        } else {
          d.told(word + " " + part + ";");
        }
      }
    }
    d.told("rise lies;");
    d.faulty(1, "fade |lies;");
    d.faulty(1, "say |lies;");
    d.faulty(1, "hear |lies;");
    d.says("4 the 7th ( that is open at once, at it");
    for (String word : "fade say hear rise".split(" ")) {
      d.told(word + " ((((((1))))));");
      d.faulty(4, word + " ((((((|(1)))))));");
      d.faulty(4, word + " ( ( (((( |(");
      d.told(word + " min(max(min(max(min(max(1,2),3),4),5),6),7);");
      d.faulty(4, word + " min(max(min(max(min(max(min|(1,2),3),4),5),6),7),8);");
      d.faulty(4, word + " min(max(min(max(min(max(1,max |(1,2)),3),4),5),6),7);");
      d.told(word + " ((((((1))))))+((((((1))))))*min((((((1))))),(((((2))))));");
      d.faulty(4, word + " ((((((1))))))+((((((|(1)))))));");
    }
    d.told("fade ((((((1))))));say ((((((1))))));hear ((((((1))))));rise ((((((1))))));");
  }

  static void nameLength() {
    d.says("NAMES: 1 to 6 letters");
    RisingSnow x = d.told("place abcdef;place z;person q at abcdef;thing zzzzzz weighs 1;");
    d.due("the sixth letter", x.letter(0, 0, 5), 6);
    d.due("the first letter of one", x.letter(0, 1, 0), 26);
    d.due("no second one", x.letter(0, 1, 1), 0);
    d.told("place abcdef;place abcdeg;place abcde;place b;");
    d.says("a 7th letter at itself");
    String abc = "place abcdef;place b;person qrstuv at b;thing tuvwxy weighs 1;";
    for (String text : new String[] {"place ghijkl|m;", "place abcdef|g;", "place placex|y;", "way abcdef|g b takes 1;", "way b abcdef|g takes 1;",
        "person ghijkl|mnop at b;", "person p at abcdef|g;", "thing ghijkl|m weighs 1;", "thing u weighs 1 from tuvwxy|z;",
        "thing u weighs 1 from tuvwxy tuvwxy|z;", "knows qrstuv|w tuvwxy 1;", "knows qrstuv tuvwxy|z 1;", "place weighs|s;"}) {
      d.faulty(1, abc + text);
    }
    d.says("words and numbers whole, at their first byte");
    d.faulty(1, "|placeplace a;");
    d.faulty(1, "|plac a;");
    d.faulty(1, "|places a;");
    d.faulty(1, abc + "way abcdef b |takestakes 1;");
    d.faulty(1, abc + "way abcdef b |take 1;");
    d.faulty(1, abc + "person p |a;");
    d.faulty(1, "thing t |weighsweighs 1;");
    d.faulty(1, "thing t weighs 1 |fromfrom t;");
    d.faulty(1, "fade 1 |weighs;");
    d.faulty(1, "|1234567;");
  }

  static void ownWords() {
    d.says("no OWN WORD, unlike ones");
    for (String word : OWN.split(" ")) {
      d.faulty(1, "place |" + word + ";");
    }
    d.says("OWN WORDS: place, way, takes, person, at, thing, weighs, from, knows, fade, say, hear, rise, catch, breaks, thief, busy, "
        + "know, day, points, hangs, lies, number, gone, or, and, not, all, min, max.");
    for (String word : OWN.split(" ")) {
      d.faulty(1, "thing |" + word + " weighs 1;");
      d.faulty(1, APT + "thing u weighs 1 from |" + word + ";");
      d.faulty(1, APT + "thing u weighs 1 from t |" + word + ";");
      d.told("place " + word.charAt(0) + ";");
      if (word.length() < 6) {
        d.told("place " + word + (word.equals("know") ? "z" : "x") + ";");
      }
    }
    d.says("where a NAME is asked, an OWN WORD so");
    d.faulty(1, AB + "way |at b takes 1;");
    d.faulty(1, AB + "way a |takes 1;");
    d.faulty(1, AB + "person |at a;");
    d.faulty(1, AB + "person p at |all;");
    d.faulty(1, APT + "knows |knows t 1;");
    d.faulty(1, APT + "knows p |points 1;");
    for (String word : "first last often total most least".split(" ")) {
      d.told("place " + word + ";");
      d.told("thing " + word + " weighs 1;thing u weighs 1 from " + word + ";");
    }
  }

  static void unlikeNames() {
    String ahead = "place aa;person pp at aa;thing tt weighs 1;";
    d.says("unlike ones (of all sorts)");
    for (String name : "aa pp tt".split(" ")) {
      d.faulty(3, ahead + "place |" + name + ";");
      d.faulty(3, ahead + "person |" + name + " at aa;");
      d.faulty(3, ahead + "thing |" + name + " weighs 1;");
    }
    d.told(ahead + "place a;place p;person ppp at a;thing t weighs 1;thing ttt weighs 1;");
    d.says("3 a NAME to be given that is there already");
    d.faulty(3, ahead + "place \n|aa");
    d.faulty(3, ahead + "person \n|aa");
    d.faulty(3, ahead + "thing \n|aa");
  }

  static void toldAhead() {
    d.says("told ahead of where they are asked");
    d.faulty(3, "place a;way a |b takes 1;place b;");
    d.faulty(3, "place a;way |b a takes 1;place b;");
    d.faulty(3, "person p at |a;place a;");
    d.faulty(3, "place a;thing t weighs 1;knows |p t 1;person p at a;");
    d.faulty(3, "place a;person p at a;knows p |t 1;thing t weighs 1;");
    d.says("one that is none of what is asked");
    d.faulty(3, APT + "way |p a takes 1;");
    d.faulty(3, APT + "way |t a takes 1;");
    d.faulty(3, APT + "way a |p takes 1;");
    d.faulty(3, APT + "way a |t takes 1;");
    d.faulty(3, APT + "way a |aa takes 1;");
  }

  static void blanks() {
    d.says("Blanks (10, 32) are where one likes");
    d.told(" \n place \n a \n ; \n place b;person \n p \n at \n a \n ; \n ", 3);
    d.told("\nplace\na\n;\nplace\nb\n;\nway\na\nb\ntakes\n1\n;\nthing\nt\nweighs\n1\n;\nthing\nu\nweighs\n1\nfrom\nt\n;\n");
    d.told("fade \n ( 1 + 2 ) * min \n ( 1 , 2 ) - max ( 3 \n,\n 4 ) / points ;");
    d.told("fade(1+2)*min(1,2)-max(3,4)/points;say(1);hear min(1,2);");
    for (int c : new int[] {0, 9, 11, 12, 13, 31, 33, 127, 128, 160, 255}) {
      d.faulty(1, "|" + (char) c + "place a;");
      d.faulty(1, "place|" + (char) c + "a;");
      d.faulty(1, "place a|" + (char) c + ";");
      d.faulty(1, "place a;|" + (char) c);
      d.faulty(1, "fade 1|" + (char) c + ";");
    }
    d.faulty(1, "|pl ace a;");
    d.faulty(1, "fade 1 |2;");
    d.says("(words and numbers side by side need one)");
    d.told(AB + "way a b takes 5;thing t weighs 1;thing u weighs 1 from t;fade 1;busy 5;");
    d.faulty(1, AB + "way a b takes|5;");
    d.faulty(1, "thing t weighs|1;");
    d.faulty(1, "thing t weighs 1;thing u weighs 1|from t;");
    d.faulty(1, APT + "knows p t|1;");
    d.faulty(1, "fade|1;");
    d.faulty(1, "busy|5;");
    d.faulty(1, "busy|12345;");
    d.faulty(1, "place a|1;");
    d.faulty(1, "fade 1|points;");
  }

  // A statement of each sort, token by token: of which sort each is, then the text. Sorts: k a fixed
  // word or sign, b an opening bracket, n a NAME, m a sign where a NAME may stand too, d digits, s where
  // a PART begins, o a sign behind a PART.
  static final String[][] TOKENS = {
      {"kplace", "nx", "k;"},
      {"kway", "na", "nb", "ktakes", "d5", "k;"},
      {"kperson", "nx", "kat", "na", "k;"},
      {"kthing", "nx", "kweighs", "d5", "k;"},
      {"kthing", "nx", "kweighs", "d5", "kfrom", "nt", "m;"},
      {"kknows", "np", "nt", "d5", "k;"},
      {"kfade", "spoints", "o;"},
      {"ksay", "s1", "k+", "s2", "o;"},
      {"khear", "smin", "b(", "s1", "o,", "s2", "o)", "o;"},
      {"krise", "s(", "slies", "o)", "o*", "sday", "o;"},
      {"kcatch", "d5", "k;"},
      {"kbreaks", "d5", "k;"},
      {"kthief", "d5", "k;"},
      {"kbusy", "d5", "k;"}};

  /** Every place of every statement, with what can't stand there, and with the text's end. */
  static void firstAlongTheText() {
    String ahead = AB + "person p at a;thing t weighs 1;";
    d.says("1 the first byte with which no such text goes on");
    for (String[] tokens : TOKENS) {
      StringBuilder text = new StringBuilder(ahead);
      for (String token : tokens) {
        for (String wrong : wrongFor(token.charAt(0)).split(" ")) {
          d.faulty(1, text + "|" + wrong + " ;");
        }
        // a STATEMENT that ends too soon, and the text with it
        if (text.length() > ahead.length() && !" k+ o* kfrom ".contains(" " + token + " ") && !token.endsWith(";")) {
          d.faulty(1, text + "|;");
        }
        text.append(token.substring(1)).append(' ');
      }
      d.told(text.toString());
    }
    d.says("at the text's length, if it ends too soon");
    for (String[] tokens : TOKENS) {
      StringBuilder text = new StringBuilder(ahead);
      for (int i = 0; i < tokens.length - 1; i++) {
        text.append(i > 0 ? " " : "").append(tokens[i].substring(1));
        d.faulty(1, text + "|");
        d.faulty(1, text + " \n|");
      }
    }
    d.faulty(1, "|plac");
    d.faulty(1, "fade 1+|");
    d.faulty(1, "fade (1|");
    d.says("FAULTS, the first along the text");
    d.faulty(1, "place |7;fade 1;fade 1;");
    d.faulty(1, "busy |x;busy 101;");
    d.faulty(2, "busy |101 x");
    d.faulty(2, "busy |101;place a;place a;");
    d.faulty(3, "place a;place |a x");
    d.faulty(3, "place a;thing |a weighs 0;");
    d.faulty(3, "way |x x takes 0;");
    d.faulty(4, "fade ((((((|(x;");
    d.faulty(4, "fade ((((((|(1;fade 1;");
    d.faulty(5, "fade 1;|fade ((((((((;");
    d.faulty(5, "fade 1;|fade x; busy 101;");
    d.faulty(5, row("place", "", 6) + "|place xa;busy 101;");
    d.faulty(2, row("place", "", 6) + "busy |101;place xa;");
  }

  static String wrongFor(char sort) {
    return switch (sort) {
      case 'n' -> "7 12345 all weighs ; ( ? A";
      case 'd' -> "x at abcdefgh ; ( - ?";
      case 's' -> "x at abcdefgh number gone + ) , ; ? A";
      case 'b' -> "7 x at ) [ ? A";
      case 'm' -> "7 12345 from at ( ? A";
      case 'o' -> "7 12345 x at abcdefgh points ( ? A";
      default -> "7 12345 x abcdefgh or ( ? A";
    };
  }
}
