import java.io.IOException;

/** The edges of part III of the document and of promises 13 to 21: a test for each sentence that names one. */
public final class EdgeAheadTest {
  static final String APT = "place a;person p at a;thing t weighs 9;";
  static final int[] FAR = {Integer.MIN_VALUE, -2, -1, 100, Integer.MAX_VALUE};
  static Due d;

  public static void main(String[] args) throws IOException {
    d = new Due("EdgeAheadTest", args);
    fortyNights();
    lastDay();
    withoutOtherActs();
    later();
    forgets();
    breaksWhere();
    breaks();
    keptFewest();
    keptByNumbers();
    keptRanges();
    bestOnes();
    bestRanges();
    held();
    shovelRanges();
    routes();
    routeRanges();
    whose();
    whoseRanges();
    thief();
    againstRanges();
    d.close();
  }

  static void none(String call, int got) {
    d.due(call, got, -1);
  }

  static void fortyNights() {
    d.says("without other ACTS (40 at most,");
    RisingSnow x = d.told(APT + "knows p t 40;fade points-1;rise 0;breaks 8;");
    d.due("later 39", x.later(0, 0, 39), 1);
    d.due("later 40", x.later(0, 0, 40), 0);
    d.due("later 41", x.later(0, 0, 41), -1);
    d.due("forgets(0)", x.forgets(0), 40);
    d.due("breaks(0)", x.breaks(0), 40);
    d.due("best 40", x.best(0, 40, 1), 1);
    d.due("best 41", x.best(0, 41, 1), -1);
    d.due("shovel 39", x.shovel(39, 0, 1), 0);
    d.due("shovel 40", x.shovel(40, 0, 1), 9);
    d.due("shovel 41", x.shovel(41, 0, 1), -1);
    x = d.told(APT + "knows p t 41;fade points-1;rise 0;breaks 8;");
    d.due("later 40", x.later(0, 0, 40), 1);
    d.due("forgets(0)", x.forgets(0), -1);
    d.due("forgets(1)", x.forgets(1), -1);
    d.due("forgets(2)", x.forgets(2), -1);
    d.due("breaks(0)", x.breaks(0), -1);
    d.due("breaks(1)", x.breaks(1), -1);
  }

  /** One who will forget t in so many nights, so many nights ahead of DAY 9999. */
  static RisingSnow near(int nights, int points) {
    RisingSnow x = d.told(APT + "fade points-1;say points;rise 0;breaks 8;thief 0;");
    d.on(x, 9999 - nights, new int[][] {{0, points}}, new int[][] {{0, 0, 0}});
    return x;
  }

  static void lastDay() {
    d.says("(40 at most, not beyond DAY 9999)");
    for (int left : new int[] {0, 1, 2, 19, 20, 39, 40}) {
      RisingSnow x = near(left, left + 1);
      d.due("later " + left, x.later(0, 0, left), 1);
      d.due("later " + (left + 1), x.later(0, 0, left + 1), -1);
      d.due("forgets(0)", x.forgets(0), -1);
      d.due("breaks(0)", x.breaks(0), -1);
      d.due("keep " + left, x.keep(0, 1, left, 0), left > 0 && left <= 20 ? 0 : -1);
      d.due("keep " + (left + 1), x.keep(0, 0, left + 1, 0), -1);
      d.due("best " + left, x.best(0, left, 1), left > 0 ? 1 : -1);
      d.due("best " + (left + 1), x.best(0, left + 1, 1), -1);
      d.due("shovel " + left, x.shovel(left, 1, 0), left > 0 ? 1 : -1);
      d.due("shovel " + (left + 1), x.shovel(left + 1, 1, 0), -1);
      d.due("against 0", x.against(0, 0, 0), 1);
      d.due("against 1", x.against(0, 0, 1), left >= 1 ? 1 : -1);
      d.due("against 2", x.against(0, 0, 2), left >= 2 ? 1 : -1);
      x = near(left, left == 0 ? 1 : left);
      d.due("forgets(0)", x.forgets(0), left == 0 ? -1 : left);
      d.due("forgets(1)", x.forgets(1), left == 0 ? -1 : 0);
      d.due("forgets(2)", x.forgets(2), left == 0 ? -1 : 0);
      d.due("breaks(0)", x.breaks(0), left == 0 ? -1 : left);
      d.due("breaks(1)", x.breaks(1), left == 0 ? -1 : 0);
      d.due("has(3)", x.has(3), 9999 - left);
    }
    RisingSnow x = d.told(APT + "breaks 8;");
    d.on(x, 9999, new int[][] {{0, 0}}, new int[][] {{0, 0, 9}});
    d.due("now it may break on the last day", x.breaks(0), 0);
    d.due("breaks(1)", x.breaks(1), 0);
  }

  static void withoutOtherActs() {
    d.says("AHEAD are NIGHTS as they come from now on without other ACTS");
    RisingSnow x = d.told(APT + "knows p t 3;fade points-1;say 99;busy 100;rise 0;breaks 8;");
    d.due("later 3", x.later(0, 0, 3), 0);
    d.due("forgets(0)", x.forgets(0), 3);
    d.due("breaks(0)", x.breaks(0), 3);
    d.due("nights(1)", x.nights(1), 0);
    d.due("from now on", x.later(0, 0, 1), 1);
    d.due("forgets(0)", x.forgets(0), 2);
    d.due("breaks(0)", x.breaks(0), 2);
    d.due("nothing is said", x.points(0, 0), 2);
    d.due("no act", x.has(8), 1);
    byDay();
  }

  /** By each of these NIGHTS the DAY is one more: 99 becomes 99, 97, 93, 87, 79, 69, 57, 43, 27, 9, none. */
  static void byDay() {
    RisingSnow x = d.told(APT + "person q at a;knows q t 99;fade points-2*day;say points;rise day;breaks 8;thief 0;");
    int[] points = {99, 99, 97, 93, 87, 79, 69, 57, 43, 27, 9, 0};
    for (int n = 0; n < points.length; n++) {
      d.due("later " + n, x.later(1, 0, n), points[n]);
      d.due("best " + n, x.best(1, n, 1), n == 0 ? -1 : n <= 10 ? 1 : 0);
      d.due("keep " + n, x.keep(1, 1, n, 1), n == 0 ? -1 : n <= 10 ? 0 : -1);
    }
    d.due("forgets(0)", x.forgets(0), 11);
    d.due("what falls in the 11th rises at once by its DAY, 10", x.breaks(0), -1);
    d.due("held", x.shovel(11, 1, 1), 9);
    d.due("not held", x.shovel(11, 0, 1), 0);
    d.due("nights(9)", x.nights(9), 0);
    d.due("points(1, 0)", x.points(1, 0), 27);
    d.due("from now on: 27, 9, none", x.later(1, 0, 1), 9);
    d.due("from now on: 27, 9, none", x.later(1, 0, 2), 0);
    d.due("keep 1", x.keep(1, 1, 1, 0), 0);
    d.due("keep 2", x.keep(1, 1, 2, 0), -1);
    d.due("best 1", x.best(1, 1, 1), 1);
    d.due("best 2", x.best(1, 2, 1), 0);
    d.due("against 1", x.against(1, 0, 1), 1);
    d.due("against 2", x.against(1, 0, 2), 0);
    x = d.told(APT + "knows p t 99;fade points-30*day;");
    d.due("97 less 90 on DAY 3", x.keep(0, 1, 4, 0), 1);
    d.due("none left on DAY 4", x.keep(0, 1, 5, 0), -1);
  }

  static void later() {
    d.says("One's points of a THING n NIGHTS AHEAD (0 .. 40)");
    RisingSnow x = d.told(APT + "person q at a;thing u weighs 1 from t;knows p t 99;knows p u 50;knows q u 5;fade points-2;");
    d.due("later 0", x.later(0, 0, 0), 99);
    d.due("later 1", x.later(0, 0, 1), 97);
    d.due("later 40", x.later(0, 0, 40), 19);
    d.due("what hangs on another", x.later(0, 1, 24), 2);
    d.due("what hangs on one not known, now", x.later(1, 1, 0), 5);
    d.due("then", x.later(1, 1, 1), 0);
    RisingSnow y = d.told(CHAIN);
    int[] points = {90, 88, 86, 0};
    for (int n = 0; n < points.length; n++) {
      d.due("what hangs on what hangs on another, " + n, y.later(0, 2, n), points[n]);
    }
    none("later 41", x.later(0, 0, 41));
    for (int n : FAR) {
      none("later " + n, x.later(0, 0, n));
    }
    d.says("AHEAD (0 .. 40); NONE when there are none such.");
    none("no such person", x.later(2, 0, 1));
    none("no such thing", x.later(0, 2, 1));
    for (int n : FAR) {
      none("no such person", x.later(n, 0, 0));
      none("no such thing", x.later(0, n, 0));
    }
    none("without a valley", new RisingSnow().later(0, 0, 0));
    d.due("nothing is refused", x.status(2) + x.status(3), 0);
  }

  static void forgets() {
    d.says("What is FORGOTTEN first AHEAD (by NIGHTS, PEOPLE, THINGS): how many NIGHTS (what 0), who (1), which (2).");
    String text = "place a;person p at a;person q at a;thing t weighs 1;thing u weighs 1;fade points-1;";
    int[][] rows = {{0, 1, 1, 0, 1, 0, 1}, {2, 2, 1, 9, 1, 1, 0}, {3, 2, 2, 2, 2, 0, 1}, {2, 2, 2, 2, 2, 0, 0}, {3, 3, 3, 2, 2, 1, 1}};
    for (int[] row : rows) {
      RisingSnow x = d.told(text + "knows p t " + row[0] + ";knows p u " + row[1] + ";knows q t " + row[2] + ";knows q u " + row[3] + ";");
      d.due("forgets(0)", x.forgets(0), row[4]);
      d.due("forgets(1)", x.forgets(1), row[5]);
      d.due("forgets(2)", x.forgets(2), row[6]);
    }
    d.says("NONE when nothing is, or for others. ## Promise 15");
    RisingSnow x = d.told(text);
    for (int what = -1; what <= 3; what++) {
      none("nothing is: " + what, x.forgets(what));
    }
    x = d.told(text + "knows q u 1;");
    none("forgets(3)", x.forgets(3));
    for (int what : FAR) {
      none("forgets(" + what + ")", x.forgets(what));
    }
    none("without a valley", new RisingSnow().forgets(0));
  }

  static void breaksWhere() {
    d.says("It BREAKS in a PLACE, if more than breaks lies there of all THINGS together.");
    String text = "place a;place b;thing t weighs 9;thing u weighs 9;rise 0;breaks ";
    int[][] rows = {{0, 0, 0, -1}, {0, 1, 0, 0}, {10, 5, 5, -1}, {10, 5, 6, 0}, {10, 6, 5, 0}, {10, 0, 10, -1}, {10, 11, 0, 0},
        {999, 999, 0, -1}, {999, 999, 1, 0}, {999, 500, 499, -1}, {999, 500, 500, 0}};
    for (int[] row : rows) {
      RisingSnow x = d.told(text + row[0] + ";");
      d.on(x, 0, new int[][] {}, new int[][] {{0, 0, 0, row[1]}, {0, 0, 0, row[2]}});
      d.due("breaks(0)", x.breaks(0), row[3]);
      d.due("breaks(1)", x.breaks(1), row[3] == 0 ? 1 : -1);
    }
    RisingSnow x = d.told(text + "10;");
    d.on(x, 0, new int[][] {}, new int[][] {{0, 0, 10, 10}, {0, 0, 0, 0}});
    d.due("not of two places together", x.breaks(0), -1);
  }

  static void breaks() {
    d.says("Where it BREAKS first (0 NIGHTS AHEAD: now; of PLACES the first): how many NIGHTS AHEAD (what 0), the PLACE (1).");
    String text = "place a;place b;place c;person p at b;person q at c;thing t weighs 9;fade points-1;rise 0;breaks 8;";
    int[][] rows = {{1, 0, 1, 1}, {2, 1, 1, 2}, {2, 2, 2, 1}, {0, 7, 7, 2}};
    for (int[] row : rows) {
      RisingSnow x = d.told(text + "knows p t " + row[0] + ";knows q t " + row[1] + ";");
      d.due("breaks(0)", x.breaks(0), row[2]);
      d.due("breaks(1)", x.breaks(1), row[3]);
      x.nights(row[2]);
      d.due("now", x.breaks(0), 0);
      d.due("breaks(1)", x.breaks(1), row[3]);
    }
    for (int place = 0; place < 3; place++) {
      // 9 of t fall in the first night, 9 of u in the third
      String rising = "place a;place b;place c;person p at " + "abc".charAt(place) + ";thing t weighs 9;thing u weighs 9;knows p t 1;knows p u 3;fade points-1;";
      RisingSnow x = d.told(rising + "rise 3;breaks 6;");
      d.due("6 lie, then 3, then 6", x.breaks(0), -1);
      x = d.told(rising + "rise 3;breaks 5;");
      d.due("6 lie", x.breaks(0), 1);
      x = d.told(rising + "rise 2;breaks 9;");
      d.due("7 lie, then 5, then 3 and 7", x.breaks(0), 3);
      d.due("breaks(1)", x.breaks(1), place);
      x = d.told(rising + "rise 2;breaks 10;");
      d.due("7 lie, then 5, then 3 and 7", x.breaks(0), -1);
    }
    d.says("NONE when it does nowhere, or for others.");
    RisingSnow x = d.told(text);
    none("nowhere", x.breaks(0));
    none("nowhere", x.breaks(1));
    x = d.told(text + "knows p t 1;");
    none("breaks(2)", x.breaks(2));
    for (int what : FAR) {
      none("breaks(" + what + ")", x.breaks(what));
    }
    none("without a valley", new RisingSnow().breaks(0));
  }

  static void keptFewest() {
    d.says("the fewest THINGS that he says ahead of each of these NIGHTS");
    RisingSnow x = d.told("place a;person p at a;thing t weighs 1;thing u weighs 1;thing v weighs 1;knows p t 99;knows p u 10;knows p v 5;fade points-5;say points+3;");
    d.due("none is needed", x.keep(0, 1, 19, 0), 0);
    d.due("none is needed", x.keep(0, 1, 19, 1), 0);
    d.due("one is needed in the 20th", x.keep(0, 1, 20, 0), 1);
    d.due("one is needed in the 20th", x.keep(0, 1, 20, 1), 1);
    d.due("said on each day: 10 + 4 * 3 - 4 * 5 = 2", x.keep(0, 2, 4, 1), 2);
    d.due("not in the fifth", x.keep(0, 2, 5, 1), -1);
    d.due("the others are not said", x.keep(0, 3, 2, 1), 2);
    d.due("so that he KNOWS all the told ones", x.keep(0, 7, 1, 1), 4);
    d.due("how many", x.keep(0, 7, 1, 0), 1);
    d.due("two, in two nights", x.keep(0, 7, 2, 0), 2);
    d.due("two, in two nights", x.keep(0, 7, 2, 1), 6);
    d.due("one of them can't be, in three", x.keep(0, 7, 3, 0), -1);
    d.due("none told", x.keep(0, 0, 20, 1), 0);
    x = d.told(CHAIN);
    d.due("what hangs on what hangs on another", x.keep(0, 4, 2, 1), 0);
    d.due("what hangs on what hangs on another", x.keep(0, 4, 3, 1), 1);
    x = d.told("place a;person p at a;person q at a;thing t weighs 1;thing u weighs 1;knows p t 99;knows p u 1;knows q t 1;knows q u 99;fade points-1;");
    d.due("of the first", x.keep(0, 1, 2, 1), 0);
    d.due("of the second", x.keep(1, 1, 2, 1), 1);
    d.due("of the first", x.keep(0, 2, 2, 1), 2);
    d.due("of the second", x.keep(1, 2, 2, 1), 0);
    d.due("of the second", x.keep(1, 3, 2, 1), 1);
    // b and c fade, when q KNOWS them no more, which hang on a
    x = d.told(HEARD + "knows p a 99;knows p b 99;knows p c 99;knows q a 1;knows q b 99;knows q c 99;");
    d.due("b by a, or by b", x.keep(0, 2, 5, 0), 1);
    d.due("b and c by a alone", x.keep(0, 6, 5, 0), 1);
    d.due("b and c by a alone", x.keep(0, 6, 5, 1), 1);
    d.due("in three nights none is needed", x.keep(0, 6, 3, 1), 0);
    // e fades, when r KNOWS it no more, who will not know b, c and d without hearing them
    x = d.told(HEARD + "person r at x;thing d weighs 1 from a;thing e weighs 1 from b c d;knows p a 99;knows p b 99;knows p c 99;knows p d 99;knows p e 99;"
        + "knows q a 1;knows q b 99;knows q c 99;knows q d 99;knows r a 99;knows r b 1;knows r c 1;knows r d 1;knows r e 99;");
    d.due("a and e (17), not b, c and d (14)", x.keep(0, 31, 5, 1), 17);
    d.due("two", x.keep(0, 31, 5, 0), 2);
    d.says("so that he KNOWS all the told ones behind them; of like ones the least bits");
    x = d.told("place a;person p at a;person q at a;thing t weighs 1;thing u weighs 1 from t;"
        + "knows p t 99;knows p u 99;knows q t 2;knows q u 99;fade points-2+min(know-2,0)*40+hangs*2;hear points+5;");
    d.due("t keeps u as well as u itself does", x.keep(0, 2, 4, 1), 1);
    d.due("how many", x.keep(0, 2, 4, 0), 1);
    x = d.told(HEARD + "knows p a 99;knows p b 99;knows p c 99;knows q a 1;knows q b 99;knows q c 99;");
    d.due("b by a as well as by b", x.keep(0, 2, 5, 1), 1);
    d.due("c by a as well as by c", x.keep(0, 4, 5, 1), 1);
    // d fades, when r KNOWS it no more, who will not know b and c without hearing them
    x = d.told(HEARD + "person r at x;thing d weighs 1 from b c;knows p a 99;knows p b 99;knows p c 99;knows p d 99;"
        + "knows q a 1;knows q b 99;knows q c 99;knows r a 99;knows r b 1;knows r c 1;knows r d 99;");
    d.due("by b and c (6) as well as by a and d (9)", x.keep(0, 15, 5, 1), 6);
    d.due("how many", x.keep(0, 15, 5, 0), 2);
  }

  // What hangs on another fades by 40 for one who alone KNOWS it.
  static final String HEARD = "place x;person p at x;person q at x;thing a weighs 1;thing b weighs 1 from a;thing c weighs 1 from a;hear points+5;"
      + "fade points-1-min(hangs,1)*40*max(0,2-know);";

  // Three nights long he knows t, and so v by u.
  static final String CHAIN = "place a;person p at a;thing t weighs 1;thing u weighs 2 from t;thing v weighs 2 from u;"
      + "knows p t 3;knows p u 90;knows p v 90;fade points-weighs;";

  static void keptByNumbers() {
    d.says("(by numbers, each if he KNOWS it then)");
    // q hears u only behind t, and only what two KNOW stays
    String text = "place a;person p at a;person q at a;thing t weighs 1;thing u weighs 1 from t;knows p t 99;knows p u 99;hear 50;"
        + "fade points-max(0,2-know)*99*hangs;";
    RisingSnow x = d.told(text);
    d.due("t, then u", x.keep(0, 2, 1, 1), 3);
    d.due("how many", x.keep(0, 2, 1, 0), 2);
    d.due("t alone", x.keep(0, 1, 20, 1), 0);
    x = d.told(APT + "knows p t 1;fade points-2;say points+1;");
    d.due("what is lost is said no more", x.keep(0, 1, 1, 0), -1);
    x = d.told(APT + "knows p t 2;fade points-2;say points+1;");
    d.due("keep 1", x.keep(0, 1, 1, 1), 1);
    d.due("keep 2", x.keep(0, 1, 2, 1), -1);
    x = d.told(APT + "thing u weighs 1 from t;knows p u 50;");
    d.due("what hangs on one not known", x.keep(0, 2, 1, 0), -1);
    d.due("what is not known", x.keep(0, 1, 1, 0), -1);
  }

  static void keptRanges() {
    d.says("KEPT by one, some THINGS (bits), n NIGHTS (1 .. 20): how many THINGS he says (what 0), these as bits (1).");
    RisingSnow x = d.told(APT + "person q at a;thing u weighs 1;knows p t 99;knows p u 99;knows q t 9;");
    none("n 0", x.keep(0, 1, 0, 0));
    d.due("n 1", x.keep(0, 1, 1, 0), 0);
    d.due("n 20", x.keep(0, 1, 20, 0), 0);
    none("n 21", x.keep(0, 1, 21, 0));
    none("n 21 of no things", x.keep(0, 0, 21, 0));
    d.due("bits 0", x.keep(0, 0, 1, 1), 0);
    d.due("bits 3", x.keep(0, 3, 1, 1), 0);
    d.says("NONE when it can't be, there are none such, or for others.");
    none("it can't be", x.keep(1, 2, 1, 0));
    none("bits 4", x.keep(0, 4, 1, 0));
    none("bits 5", x.keep(0, 5, 1, 0));
    none("person 2", x.keep(2, 1, 1, 0));
    none("what 2", x.keep(0, 1, 1, 2));
    for (int n : FAR) {
      none("person " + n, x.keep(n, 1, 1, 0));
      none("bits " + n, x.keep(0, n, 1, 0));
      none("n " + n, x.keep(0, 1, n, 0));
      none("what " + n, x.keep(0, 1, 1, n));
    }
    none("without a valley", new RisingSnow().keep(0, 0, 1, 0));
    x = d.told("place a;person p at a;");
    d.due("without things", x.keep(0, 0, 1, 0), 0);
    none("without things", x.keep(0, 1, 1, 0));
    StringBuilder ten = new StringBuilder("place a;person p at a;fade points-1;");
    for (char c = 'b'; c < 'l'; c++) {
      ten.append("thing ").append(c).append(" weighs 1;knows p ").append(c).append(" 1;");
    }
    x = d.told(ten.toString());
    d.due("all ten", x.keep(0, 1023, 20, 0), 10);
    d.due("all ten", x.keep(0, 1023, 20, 1), 1023);
    d.due("the tenth", x.keep(0, 512, 20, 1), 512);
    none("an eleventh", x.keep(0, 1024, 20, 1));
    none("an eleventh", x.keep(0, 2047, 20, 1));
  }

  static void bestOnes() {
    d.says("the THING (KNOWN) by which he KNOWS the most THINGS n NIGHTS AHEAD; of like ones the first");
    String text = "place a;person p at a;thing t weighs 1;thing u weighs 1;thing v weighs 1 from u;fade points-1;say points+5;";
    int[][] rows = {{1, 1, 0, 1, 0, 1}, {0, 1, 0, 1, 1, 1}, {1, 1, 9, 1, 1, 2}, {9, 9, 9, 1, 0, 3}, {1, 1, 1, 6, 0, 0}, {2, 1, 1, 5, 0, 1},
        {1, 2, 2, 1, 0, 3}, {0, 0, 5, 1, 2, 0}};
    for (int[] row : rows) {
      RisingSnow x = d.told(text + "knows p t " + row[0] + ";knows p u " + row[1] + ";knows p v " + row[2] + ";");
      d.due("best(0, " + row[3] + ", 0) of " + row[0] + " " + row[1] + " " + row[2], x.best(0, row[3], 0), row[4]);
      d.due("best(0, " + row[3] + ", 1) of " + row[0] + " " + row[1] + " " + row[2], x.best(0, row[3], 1), row[5]);
    }
  }

  static void bestRanges() {
    d.says("BEST to say now, n NIGHTS AHEAD (1 .. 40): the THING (what 0), how many he KNOWS then (1).");
    RisingSnow x = d.told(APT + "person q at a;knows p t 41;fade points-1;say points;");
    none("n 0", x.best(0, 0, 0));
    d.due("n 1", x.best(0, 1, 0), 0);
    d.due("n 40", x.best(0, 40, 0), 0);
    d.due("n 40", x.best(0, 40, 1), 1);
    none("n 41", x.best(0, 41, 0));
    d.says("NONE when he KNOWS none, there is none such, n can't be, or for others.");
    none("he KNOWS none", x.best(1, 1, 0));
    none("he KNOWS none", x.best(1, 1, 1));
    none("person 2", x.best(2, 1, 0));
    none("what 2", x.best(0, 1, 2));
    for (int n : FAR) {
      none("person " + n, x.best(n, 1, 0));
      none("n " + n, x.best(0, n, 0));
      none("what " + n, x.best(0, 1, n));
    }
    none("without a valley", new RisingSnow().best(0, 1, 0));
    none("without things", d.told("place a;person p at a;").best(0, 1, 0));
  }

  static void held() {
    d.says("HELD are PLACES in which nothing rises: SHOVELLED are so many PLACES by which the most lies in all PLACES together n NIGHTS AHEAD");
    String text = "place a;place b;place c;thing t weighs 1;thing u weighs 1;rise 2;";
    RisingSnow x = d.told(text);
    d.on(x, 0, new int[][] {}, new int[][] {{0, 0, 1, 5, 0}, {0, 0, 2, 9, 3}});
    d.due("none, 1 night", x.shovel(1, 0, 1), 11);
    d.due("one, 1 night", x.shovel(1, 1, 0), 2);
    d.due("one, 1 night", x.shovel(1, 1, 1), 15);
    d.due("two, 2 nights", x.shovel(2, 2, 0), 3);
    d.due("two, 2 nights", x.shovel(2, 2, 1), 17);
    d.due("three", x.shovel(40, 3, 1), 20);
    d.due("nothing rises now", x.has(5), 20);
    d.says("in all PLACES together n NIGHTS AHEAD, of like ones the least bits");
    d.on(x, 0, new int[][] {}, new int[][] {{0, 0, 4, 4, 4}, {0, 0, 0, 0, 0}});
    d.due("one", x.shovel(1, 1, 0), 1);
    d.due("two", x.shovel(1, 2, 0), 3);
    d.due("three", x.shovel(1, 3, 0), 7);
    d.on(x, 0, new int[][] {}, new int[][] {{0, 0, 1, 4, 4}, {0, 0, 0, 0, 0}});
    d.due("one", x.shovel(1, 1, 0), 2);
    d.due("two", x.shovel(1, 2, 0), 6);
    d.on(x, 0, new int[][] {}, new int[][] {{0, 0, 0, 0, 0}, {0, 0, 0, 0, 0}});
    d.due("of nothing", x.shovel(1, 2, 0), 3);
    d.due("of nothing", x.shovel(1, 2, 1), 0);
    x = d.told("place a;place b;person p at b;thing t weighs 9;knows p t 5;fade points-1;rise lies;");
    d.due("what falls then", x.shovel(5, 1, 0), 2);
    d.due("what falls then", x.shovel(5, 1, 1), 9);
    d.due("ahead of that", x.shovel(4, 1, 0), 1);
    x = d.told(text);
    d.on(x, 0, new int[][] {}, new int[][] {{0, 0, 999, 999, 999}, {0, 0, 999, 999, 999}});
    d.due("much", x.shovel(1, 3, 1), 5994);
  }

  static void shovelRanges() {
    d.says("SHOVELLED, n NIGHTS AHEAD (1 .. 40), so many PLACES: these as bits (what 0), how much lies then (1).");
    RisingSnow x = d.told("place a;place b;place c;place d;place e;place f;thing t weighs 1;");
    d.on(x, 0, new int[][] {}, new int[][] {{0, 0, 50, 0, 0, 0, 0, 60}});
    none("n 0", x.shovel(0, 1, 0));
    d.due("n 1", x.shovel(1, 1, 1), 109);
    d.due("n 40", x.shovel(40, 1, 0), 1);
    d.due("n 40", x.shovel(40, 1, 1), 70);
    none("n 41", x.shovel(41, 1, 0));
    d.due("0 places", x.shovel(1, 0, 0), 0);
    d.due("0 places", x.shovel(1, 0, 1), 108);
    d.due("6 places", x.shovel(1, 6, 0), 63);
    d.due("6 places", x.shovel(1, 6, 1), 110);
    d.says("NONE when there are not so many PLACES, something can't be, or for others.");
    none("7 places", x.shovel(1, 7, 0));
    none("what 2", x.shovel(1, 1, 2));
    for (int n : FAR) {
      none("n " + n, x.shovel(n, 1, 0));
      none("places " + n, x.shovel(1, n, 0));
      none("what " + n, x.shovel(1, 1, n));
    }
    d.due("without a valley, 0 places", new RisingSnow().shovel(1, 0, 0), 0);
    none("without a valley, 1 place", new RisingSnow().shovel(1, 1, 0));
  }

  static void route(RisingSnow x, int from, int to, int takes, int... places) {
    d.due("route(" + from + ", " + to + ", -1)", x.route(from, to, -1), takes);
    for (int k = 0; k < places.length; k++) {
      d.due("route(" + from + ", " + to + ", " + k + ")", x.route(from, to, k), places[k]);
    }
    d.due("behind it", x.route(from, to, places.length), -1);
  }

  static void routes() {
    d.says("each takes what is told and as much as lies in the PLACE that is come to: the least");
    RisingSnow x = d.told("place a;place b;place c;thing t weighs 1;thing u weighs 1;way a b takes 10;way b c takes 10;way a c takes 25;");
    d.on(x, 0, new int[][] {}, new int[][] {{0, 0, 7, 1, 3}, {0, 0, 0, 3, 0}});
    route(x, 0, 2, 27, 1, 2);
    d.on(x, 0, new int[][] {}, new int[][] {{0, 0, 7, 2, 3}, {0, 0, 0, 4, 0}});
    route(x, 0, 2, 28, 2);
    route(x, 2, 0, 32, 0);
    route(x, 0, 1, 16, 1);
    route(x, 1, 0, 17, 0);
    route(x, 1, 1, 0);
    d.says("the least; of like ones PLACE by PLACE the first");
    x = d.told("place a;place b;place c;place d;way a b takes 1;way a c takes 1;way b d takes 1;way c d takes 1;way a d takes 2;");
    route(x, 0, 3, 2, 1, 3);
    route(x, 3, 0, 2, 0);
    x = d.told("place a;place b;place c;place d;place e;place f;way a c takes 2;way a b takes 3;way b e takes 2;way c e takes 3;way c d takes 1;way d e takes 2;way e f takes 9;");
    route(x, 0, 5, 14, 1, 4, 5);
    route(x, 2, 4, 3, 3, 4);
    x = d.told("place a;place b;place c;place d;way a b takes 1;way b c takes 1;way c d takes 1;way b d takes 2;way a d takes 3;");
    route(x, 0, 3, 3, 1, 2, 3);
    d.says("A ROUTE from PLACE to PLACE: by ways");
    x = d.told("place a;place b;place c;place d;place e;place f;thing t weighs 1;"
        + "way a b takes 99;way b c takes 99;way c d takes 99;way d e takes 99;way e f takes 99;");
    d.on(x, 0, new int[][] {}, new int[][] {{0, 0, 999, 999, 999, 999, 999, 999}});
    route(x, 0, 5, 5490, 1, 2, 3, 4, 5);
    route(x, 5, 0, 5490, 4, 3, 2, 1, 0);
  }

  static void routeRanges() {
    d.says("A ROUTE: how much it takes (k NONE), the k-th PLACE come to. NONE when there is none, there are none such, or for others.");
    RisingSnow x = d.told("place a;place b;place c;way a b takes 7;");
    d.due("k -1", x.route(0, 1, -1), 7);
    d.due("k 0", x.route(0, 1, 0), 1);
    none("k 1", x.route(0, 1, 1));
    none("there is none", x.route(0, 2, -1));
    none("there is none", x.route(0, 2, 0));
    none("there is none", x.route(2, 0, -1));
    d.due("to where one is", x.route(2, 2, -1), 0);
    none("to where one is", x.route(2, 2, 0));
    none("from 3", x.route(3, 0, -1));
    none("to 3", x.route(0, 3, -1));
    none("from 3 to 3", x.route(3, 3, -1));
    none("k -2", x.route(0, 1, -2));
    for (int n : FAR) {
      none("from " + n, x.route(n, 1, -1));
      none("to " + n, x.route(0, n, -1));
      none("from and to " + n, x.route(n, n, -1));
      if (n != -1) {
        none("k " + n, x.route(0, 1, n));
      }
    }
    none("without a valley", new RisingSnow().route(0, 0, -1));
  }

  static int whose(RisingSnow x, int... row) {
    Due.feed(x, Due.bytes(row));
    return x.whose();
  }

  static void whose() {
    d.says("WHOSE are some THINGS: all PEOPLE who LOST each of these.");
    RisingSnow x = d.told("place a;person m at a;person n at a;person o at a;person p at a;person q at a;person r at a;thing t weighs 1;thing u weighs 1;thing v weighs 1;");
    d.on(x, 0, new int[][] {{0, 0, 0, 0}, {0, 0, 0, 0}, {0, 0, 0, 0}, {0, 0, 0, 0}, {0, 0, 0, 0}, {0, 0, 0, 0}},
        new int[][] {{63, 0, 0}, {42, 0, 0}, {41, 0, 0}});
    d.due("0", whose(x, 0), 63);
    d.due("1", whose(x, 1), 42);
    d.due("0 1", whose(x, 0, 1), 42);
    d.due("1 2", whose(x, 1, 2), 40);
    d.due("2 1 0", whose(x, 2, 1, 0), 40);
    d.due("1 1", whose(x, 1, 1), 42);
  }

  static void whoseRanges() {
    d.says("The tape (it goes) is a row of THINGS, a byte each, 1 to 10: WHOSE, as bits of PEOPLE; NONE, refused (1), when it is none such.");
    StringBuilder ten = new StringBuilder("place a;person p at a;fade 0;");
    for (char c = 'b'; c < 'l'; c++) {
      ten.append("thing ").append(c).append(" weighs 1;knows p ").append(c).append(" 1;");
    }
    RisingSnow x = d.told(ten.toString());
    d.due("nobody", whose(x, 9), 0);
    x.nights(1);
    d.due("1 byte", whose(x, 0), 1);
    d.due("the tenth", whose(x, 9), 1);
    d.due("10 bytes", whose(x, 0, 1, 2, 3, 4, 5, 6, 7, 8, 9), 1);
    d.due("the tape goes", x.feed(0, 0, 0, 0, 0), 20);
    d.due("end(0)", x.end(0), true);
    d.due("nothing refused", x.status(1), 0);
    none("0 bytes", whose(x));
    d.due("refused", x.status(1), 1);
    none("11 bytes", whose(x, 0, 1, 2, 3, 4, 5, 6, 7, 8, 9, 0));
    d.due("refused", x.status(1), 2);
    d.due("the tape goes", x.end(1), false);
    none("an eleventh thing", whose(x, 10));
    none("an eleventh thing", whose(x, 0, 10));
    none("an eleventh thing", whose(x, 10, 0));
    none("255", whose(x, 255));
    none("128", whose(x, 0, 1, 2, 3, 4, 5, 6, 7, 8, 128));
    d.due("refused", x.status(1), 7);
    x.feed(0, 0, 0, 0, 0);
    none("20 bytes", x.whose());
    d.due("the tape goes", x.end(1), false);
    d.due("the fault is of valley(), ask() alone", x.fault(0), 0);
    none("without a valley", whose(new RisingSnow(), 0));
    x = d.told("thing t weighs 1;");
    d.due("without people", whose(x, 0), 0);
  }

  static void against(String text, int thing, int n, int due) {
    d.due("against(0, " + thing + ", " + n + ") of " + text, d.told(text).against(0, thing, n), due);
  }

  static void thief() {
    String one = "place a;person p at a;thing t weighs 1;";
    String two = one + "thing u weighs 1 from t;";
    d.says("AGAINST the thief, n days (2 at most): each day one says a THING he KNOWS (or none)");
    against(one + "knows p t 1;", 0, 1, 1);
    against(one + "knows p t 1;", 0, 2, 1);
    against(one + "knows p t 0;", 0, 1, 0);
    // here it is lost if it is said: 50 - 99
    against(one + "knows p t 10;fade 50-points;thief 0;", 0, 1, 1);
    against(one + "knows p t 10;fade 50-points;thief 9;", 0, 1, 1);
    // 20 gain each day, but 25 are lost: 9 - 5 = 4, then none
    against(one + "knows p t 9;fade points-15;say points+20;", 0, 1, 1);
    against(one + "knows p t 9;fade points-15;say points+20;", 0, 2, 0);
    against(one + "knows p t 11;fade points-15;say points+20;", 0, 2, 1);
    against(one + "knows p t 10;fade points-15;say points+20;", 0, 2, 0);
    d.says("then the thief takes points of a THING from him, as it likes (0 at least;");
    against(one + "knows p t 50;say 0;thief 49;", 0, 1, 1);
    against(one + "knows p t 50;say 0;thief 50;", 0, 1, 0);
    against(one + "knows p t 50;say 0;thief 51;fade points+60;", 0, 1, 0);
    against(one + "knows p t 50;say 0;thief 50;fade points+60;", 0, 1, 0);
    against(one + "knows p t 50;say 0;thief 49;fade points+60;", 0, 2, 1);
    against(one + "knows p t 99;say 0;thief 99;", 0, 1, 0);
    against(one + "knows p t 99;say 0;thief 98;", 0, 1, 1);
    // of 30 none are left behind the night, of 20 there are 10: it takes of the other one
    String other = "thing v weighs 1;knows p t 30;knows p v 50;fade 30-points;say points;";
    against(one + other, 0, 1, 0);
    against(one + other + "thief 0;", 0, 1, 0);
    against(one + "knows p t 29;fade 30-points;say points;thief 0;", 0, 1, 1);
    against(one + "thing v weighs 1;knows p v 50;knows p t 9;fade points-1;say points;thief 9;", 1, 1, 1);
    against(one + "thing v weighs 1;knows p v 50;knows p t 9;fade points-1;say points;thief 9;", 0, 1, 0);
    d.says("whether he can KNOW a THING then, whatever the thief takes");
    // he can say one of the two, the thief takes of the other
    against(two + "knows p t 10;knows p u 10;", 0, 1, 1);
    against(two + "knows p t 10;knows p u 10;", 1, 1, 0);
    against(two + "knows p t 11;knows p u 10;", 1, 1, 1);
    against(two + "knows p t 10;knows p u 11;", 1, 1, 1);
    against(two + "knows p t 11;knows p u 11;", 1, 2, 1);
    against(two + "knows p t 11;knows p u 10;", 1, 2, 1);
    against(two + "knows p u 99;thief 0;", 1, 1, 0);
    against(two + "knows p u 99;thief 0;", 1, 0, 1);
    against(two + "knows p t 99;knows p u 5;say points;thief 4;", 1, 1, 1);
    against(two + "knows p t 99;knows p u 5;say points;thief 4;", 1, 2, 0);
    against(CHAIN + "thief 0;say points;", 2, 2, 1);
    against(CHAIN.replace("t 3", "t 2") + "thief 0;say points;", 2, 2, 0);
    against(CHAIN + "thief 2;say points;", 2, 1, 0);
    against(CHAIN + "thief 1;say points;", 2, 1, 1);
    against(CHAIN + "thief 1;say points;", 2, 2, 0);
    // two of 10 from one of three, and 3 in each night: 27 - 26
    String three = two + "thing w weighs 1 from t u;fade points-3;say points;";
    against(three + "knows p t 27;knows p u 27;knows p w 27;", 2, 2, 1);
    against(three + "knows p t 27;knows p u 27;knows p w 26;", 2, 2, 0);
    against(three + "knows p t 26;knows p u 27;knows p w 27;", 2, 2, 0);
    against(three + "knows p t 26;knows p u 27;knows p w 27;", 1, 2, 0);
    against(three + "knows p t 27;knows p u 27;knows p w 0;", 1, 2, 1);
    d.says("then it is NIGHT: whether he can KNOW");
    against(one + "knows p t 5;fade points-5;say points;thief 0;", 0, 1, 0);
    against(one + "knows p t 6;fade points-5;say points;thief 0;", 0, 1, 1);
    against(one + "knows p t 10;fade points-5;say points;thief 0;", 0, 2, 0);
    against(one + "knows p t 11;fade points-5;say points;thief 0;", 0, 2, 1);
    against(one + "knows p t 51;fade points-day*50;say points;thief 0;", 0, 2, 1);
    against(one + "knows p t 50;fade points-day*50;say points;thief 0;", 0, 2, 0);
  }

  static void againstRanges() {
    d.says("AGAINST the thief, n days (0 .. 2): whether one can KNOW a THING then: 1, 0;");
    RisingSnow x = d.told(APT + "person q at a;thing u weighs 1;knows p t 50;");
    d.due("n 0", x.against(0, 0, 0), 1);
    d.due("n 0, not known", x.against(0, 1, 0), 0);
    d.due("n 1", x.against(0, 0, 1), 1);
    d.due("n 2", x.against(0, 0, 2), 1);
    d.due("n 2, not known", x.against(1, 0, 2), 0);
    none("n 3", x.against(0, 0, 3));
    d.says("NONE when there are none such, n can't be, or a DAY would be beyond 9999.");
    none("person 2", x.against(2, 0, 0));
    none("thing 2", x.against(0, 2, 0));
    for (int n : FAR) {
      none("person " + n, x.against(n, 0, 0));
      none("thing " + n, x.against(0, n, 0));
      none("n " + n, x.against(0, 0, n));
    }
    none("without a valley", new RisingSnow().against(0, 0, 0));
    for (int left = 0; left <= 3; left++) {
      d.on(x, 9999 - left, new int[][] {{0, 50, 0}, {0, 0, 0}}, new int[][] {{0, 0, 0}, {0, 0, 0}});
      for (int n = 0; n <= 2; n++) {
        d.due(left + " days left, n " + n, x.against(0, 0, n), n <= left ? 1 : -1);
        d.due(left + " days left, not known, n " + n, x.against(1, 0, n), n <= left ? 0 : -1);
      }
    }
  }
}
