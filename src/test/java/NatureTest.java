/** Promises 6 and 8 to 11 (what is), 22 to 28 (acts), and what a NIGHT does. */
public final class NatureTest {
  static final Due D = new Due("NatureTest");

  public static void main(String[] args) {
    nights();
    hanging();
    limits();
    sums();
    saying();
    hearing();
    catching();
    going();
    days();
    undoing();
    lastDay();
    D.close();
  }

  static void nights() {
    RisingSnow x = D.told("place a;place b;person p at a;person q at b;thing t weighs 3;thing u weighs 5;"
        + "knows p t 7;knows q t 3;knows q u 9;fade points-know-weighs;", 10);
    D.due("6 has(0)", x.has(0), 2);
    D.due("6 has(1)", x.has(1), 2);
    D.due("6 has(2)", x.has(2), 2);
    D.due("6 has(4)", x.has(4), 3);
    D.due("6 has(7)", x.has(7), 0);
    D.due("6 has(9)", x.has(9), -1);
    D.due("6 has(-1)", x.has(-1), -1);
    D.due("9 person(0, 0)", x.person(0, 0), 0);
    D.due("9 person(1, 0)", x.person(1, 0), 1);
    D.due("9 person(0, 1)", x.person(0, 1), 1);
    D.due("9 person(1, 1)", x.person(1, 1), 3);
    D.due("9 person(0, 2)", x.person(0, 2), -1);
    D.due("9 person(2, 0)", x.person(2, 0), -1);
    D.due("9 person(-1, 1)", x.person(-1, 1), -1);
    D.due("8 thing(0, 2)", x.thing(0, 2), 2);
    // p: t 7 - 2 - 3 = 2; q: t 3 - 5 is forgotten, u 9 - 1 - 5 = 3
    D.due("25 nights(1)", x.nights(1), 1);
    D.due("10 points(0, 0)", x.points(0, 0), 2);
    D.due("10 points(1, 0)", x.points(1, 0), 0);
    D.due("10 points(1, 1)", x.points(1, 1), 3);
    D.due("10 points(2, 0)", x.points(2, 0), -1);
    D.due("10 points(0, 2)", x.points(0, 2), -1);
    D.due("10 points(0, -1)", x.points(0, -1), -1);
    D.due("11 lies(1, 0): 3 lay, 1 rose", x.lies(1, 0), 2);
    D.due("11 lies(0, 0)", x.lies(0, 0), 0);
    D.due("11 lies(1, -1)", x.lies(1, -1), 2);
    D.due("11 lies(2, 0)", x.lies(2, 0), -1);
    D.due("11 lies(0, 2)", x.lies(0, 2), -1);
    D.due("11 lies(0, -2)", x.lies(0, -2), -1);
    D.due("11 lies(-1, -1)", x.lies(-1, -1), -1);
    D.due("8 thing(0, 3)", x.thing(0, 3), 1);
    D.due("8 thing(0, 4)", x.thing(0, 4), 2);
    D.due("6 has(3)", x.has(3), 1);
    D.due("6 has(8)", x.has(8), 1);
    // p: t 2 - 1 - 3 and q: u 3 - 1 - 5 are forgotten; one more of each that lies rises, a night long
    D.due("25 nights(2)", x.nights(2), 2);
    D.due("6 has(3)", x.has(3), 3);
    D.due("6 has(4)", x.has(4), 0);
    D.due("6 has(7)", x.has(7), 3);
    D.due("11 lies(0, 0)", x.lies(0, 0), 1);
    D.due("11 lies(1, 0)", x.lies(1, 0), 0);
    D.due("11 lies(1, 1)", x.lies(1, 1), 3);
    D.due("6 has(5)", x.has(5), 4);
    D.due("6 has(6)", x.has(6), 7);
    D.due("8 thing(0, 3)", x.thing(0, 3), 5);
    D.due("8 thing(0, 4)", x.thing(0, 4), 3);
    D.due("8 thing(1, 4)", x.thing(1, 4), 2);
    D.due("25 nights(0)", x.nights(0), -1);
    D.due("25 nights(101)", x.nights(101), -1);
    D.due("25 nights(-1)", x.nights(-1), -1);
    D.due("33 status(3)", x.status(3), 3);
    D.due("25 nights(100)", x.nights(100), 0);
    D.due("6 has(6)", x.has(6), 11);
    D.due("6 has(8)", x.has(8), 3);
  }

  static void hanging() {
    RisingSnow x = D.told("place a;person p at a;person q at a;thing r weighs 1;thing s weighs 2 from r;thing t weighs 3 from s;"
        + "knows p t 50;knows p s 50;knows q r 1;knows q s 9;knows q t 9;rise 0;", 12);
    D.due("8 may have points of what hangs", x.person(0, 1), 6);
    D.due("25 the first night takes it", x.nights(1), 2);
    D.due("9 person(0, 1)", x.person(0, 1), 0);
    D.due("9 person(1, 1): without fade all stays", x.person(1, 1), 7);
    D.due("11 lies(0, 2)", x.lies(0, 2), 3);
    D.due("11 lies(0, 1)", x.lies(0, 1), 2);
    x = D.told("place a;person q at a;thing r weighs 1;thing s weighs 2 from r;thing t weighs 3 from s;"
        + "knows q r 1;knows q s 9;knows q t 9;fade points-1;rise 0;", 10);
    D.due("25 one by one in a night", x.nights(1), 3);
    D.due("11 lies(0, -1)", x.lies(0, -1), 6);
    x = D.told("place a;person p at a;thing t weighs 1;knows p t 1;fade points+60;", 5);
    D.due("25 nights(2)", x.nights(2), 0);
    D.due("10 99 at most", x.points(0, 0), 99);
  }

  static void limits() {
    RisingSnow x = D.told("place a;person p at a;thing t weighs 9;knows p t 1;fade 0;rise lies*know;", 6);
    image(x, 9998, 0, 1, 0, 9999, 995);
    D.due("25 nights(1)", x.nights(1), 1);
    D.due("11 999 of a thing at most", x.lies(0, 0), 999);
    image(x, 10, 0, 0, 1, 9990, 999);
    D.due("25 nights(1)", x.nights(1), 0);
    D.due("8 rise by none who know", x.thing(0, 3), 9990);
    x = D.told("place a;person p at a;thing t weighs 9;rise lies*2;", 4);
    image(x, 10, 0, 0, 1, 9990, 999);
    D.due("25 nights(1)", x.nights(1), 0);
    D.due("8 9999 at most", x.thing(0, 3), 9999);
    D.due("11 no more than lies there", x.lies(0, 0), 0);
    x = D.told("place a;person p at a;thing t weighs 9;rise 0-5;", 4);
    image(x, 10, 0, 0, 1, 0, 50);
    D.due("25 nights(5)", x.nights(5), 0);
    D.due("11 no less than 0", x.lies(0, 0), 50);
  }

  /** on() of an image of one place, one of the people, one thing. */
  static void image(RisingSnow x, int day, int at, int points, int lost, int gone, int lies) {
    int[] b = {day >> 8, day & 255, at, points, lost, gone >> 8, gone & 255, lies >> 8, lies & 255, 0};
    int c = 211;
    for (int i = 0; i < 9; i++) {
      c = (3 * c + b[i]) % 251;
    }
    b[9] = c;
    Due.feed(x, Due.bytes(b));
    D.due("32 on()", x.on(), true);
  }

  static int faded(String sum, int points, int nights) {
    RisingSnow x = D.told("place a;person p at a;person q at a;thing z weighs 1;thing t weighs 7 from z;knows p z 99;knows q z 1;knows p t "
        + points + ";fade " + sum + ";", 9);
    x.nights(nights);
    return x.points(0, 1);
  }

  static void sums() {
    D.due("I from the left on", faded("20-5-3", 9, 1), 12);
    D.due("I products first", faded("2+3*4", 9, 1), 14);
    D.due("I / then *", faded("7/2*2", 9, 1), 6);
    D.due("I / downwards", faded("50+(0-7)/2", 9, 1), 46);
    D.due("I / by a number below 0", faded("50+7/(0-2)", 9, 1), 46);
    D.due("I / by 0", faded("33+points/(1-1)", 9, 1), 33);
    D.due("I above 10 to the 6", faded("9999*9999/9999-50", 9, 1), 50);
    D.due("I below -10 to the 6", faded("(0-9999*9999*9)/9999+150", 9, 1), 49);
    D.due("I a sum above", faded("(9999*100+9999)/9999-50", 9, 1), 50);
    D.due("I a difference below", faded("(0-9999*100-9999)/9999+150", 9, 1), 49);
    D.due("I words", faded("points+weighs*10+hangs", 9, 1), 80);
    D.due("I know, ahead of the night", faded("max(points,1)+know", 9, 1), 10);
    D.due("I day, ahead of the night", faded("50+day", 9, 3), 52);
    D.due("I min max", faded("min(max(3,8),9)*min(4,5)", 9, 1), 32);
    D.due("I below 0", faded("points-40", 9, 1), 0);
    D.due("I above 99", faded("points*40", 9, 1), 99);
    D.due("I brackets", faded("((2+3)*(4+5))", 9, 1), 45);
  }

  static void saying() {
    RisingSnow x = D.told("place a;place b;person p at a;person q at a;person r at b;thing t weighs 1;thing u weighs 1 from t;"
        + "knows p t 5;knows q t 50;knows r t 7;knows p u 9;", 11);
    D.due("22 say(0, 0)", x.say(0, 0), 1);
    D.due("10 99 without say", x.points(0, 0), 99);
    D.due("10 as they were without hear", x.points(1, 0), 50);
    D.due("22 say(0, 1)", x.say(0, 1), 1);
    D.due("10 hearing without hear", x.points(1, 1), 0);
    D.due("22 not known", x.say(1, 1), -1);
    D.due("22 alone", x.say(2, 0), 0);
    D.due("22 no such", x.say(3, 0), -1);
    D.due("22 no such", x.say(0, 2), -1);
    D.due("22 no such", x.say(-1, -1), -1);
    D.due("33 status(2)", x.status(2), 4);
    D.due("6 has(8)", x.has(8), 3);
    x = D.told("place a;person p at a;thing t weighs 1;thing u weighs 1 from t;thing v weighs 1;knows p u 5;knows p v 20;say points+weighs-3;", 8);
    D.due("22 without what it hangs on", x.say(0, 1), 0);
    D.due("10 no less than they were", x.points(0, 1), 5);
    x = D.told("place a;person p at a;thing t weighs 1;knows p t 5;say 40+know+day+hangs;", 5);
    x.nights(2);
    D.due("22 say(0, 0)", x.say(0, 0), 0);
    D.due("10 points(0, 0)", x.points(0, 0), 43);
    x = D.told("place a;person p at a;thing t weighs 1;knows p t 5;say 4000;", 5);
    x.say(0, 0);
    D.due("10 99 at most", x.points(0, 0), 99);
  }

  static void hearing() {
    String text = "place a;place b;person m at a;person n at a;person o at a;person p at b;thing r weighs 1;thing t weighs 2 from r;"
        + "knows m r 9;knows n r 9;knows p r 9;knows n t 30;";
    RisingSnow x = D.told(text + "say 50;hear points+know*10;", 14);
    D.due("22 one of three others knows what it hangs on", x.say(1, 1), 1);
    D.due("10 the speaker", x.points(1, 1), 50);
    D.due("10 the hearer, by those who know ahead of him", x.points(0, 1), 10);
    D.due("10 not without what it hangs on", x.points(2, 1), 0);
    D.due("10 not elsewhere", x.points(3, 1), 0);
    D.due("22 all hear what hangs on nothing", x.say(0, 0), 2);
    D.due("10 by numbers: n", x.points(1, 0), 39);
    D.due("10 by numbers: o", x.points(2, 0), 30);
    x = D.told(text + "hear 0-5;", 13);
    D.due("22 say(1, 0)", x.say(1, 0), 2);
    D.due("10 no less than they were", x.points(0, 0), 9);
    D.due("10 no less than 0", x.points(2, 0), 0);
    x = D.told(text + "hear know*know*9;", 13);
    x.say(1, 0);
    D.due("10 know of three", x.points(0, 0), 81);
    D.due("10 99 at most", x.points(2, 0), 81);
    x.say(2, 0);
    D.due("10 99 at most", x.points(0, 0), 99);
  }

  static void catching() {
    RisingSnow x = D.told("place a;place b;way a b takes 1;person p at a;person q at a;person r at b;thing t weighs 4;thing u weighs 3 from t;"
        + "knows p t 1;knows p u 1;knows q t 80;fade points-1;rise 0;catch 25;", 14);
    D.due("23 nothing lies", x.take(0, 0), false);
    D.due("25 nights(1)", x.nights(1), 2);
    D.due("23 without what it hangs on", x.take(0, 1), false);
    D.due("23 elsewhere", x.take(2, 0), false);
    D.due("23 take(0, 0)", x.take(0, 0), true);
    D.due("10 points(0, 0)", x.points(0, 0), 25);
    D.due("11 lies(0, 0)", x.lies(0, 0), 0);
    D.due("23 nothing lies", x.take(0, 0), false);
    D.due("23 take(0, 1)", x.take(0, 1), true);
    D.due("23 no such", x.take(3, 0), false);
    D.due("23 no such", x.take(0, 2), false);
    D.due("23 no such", x.take(-1, 0), false);
    D.due("23 no such", x.take(0, -1), false);
    D.due("33 status(2)", x.status(2), 8);
    x = D.told("place a;person p at a;person q at a;thing t weighs 4;knows p t 3;knows q t 80;fade points-5;rise 1;catch 25;", 9);
    x.nights(1);
    D.due("23 all, if there is less", x.take(1, 0), true);
    D.due("11 lies(0, 0)", x.lies(0, 0), 0);
    D.due("10 no less than they were", x.points(1, 0), 75);
    D.due("8 caught is not gone", x.thing(0, 3), 1);
    x = D.told("place a;person p at a;person q at a;person r at a;thing t weighs 4;knows p t 3;knows q t 3;knows r t 9;fade points-5;rise 0;", 10);
    x.nights(1);
    D.due("23 take(0, 0)", x.take(0, 0), true);
    D.due("11 as much as it weighs", x.lies(0, 0), 4);
    D.due("10 30 without catch", x.points(0, 0), 30);
  }

  static void going() {
    RisingSnow x = D.told("place a;place b;place c;way a b takes 1;person p at a;", 5);
    D.due("24 no way", x.go(0, 2), false);
    D.due("24 to where he is", x.go(0, 0), false);
    D.due("24 no such", x.go(0, 3), false);
    D.due("24 no such", x.go(0, -1), false);
    D.due("24 no such", x.go(1, 1), false);
    D.due("24 no such", x.go(-1, 1), false);
    D.due("33 status(2)", x.status(2), 6);
    D.due("24 go(0, 1)", x.go(0, 1), true);
    D.due("9 person(0, 0)", x.person(0, 0), 1);
    D.due("24 back", x.go(0, 0), true);
    D.due("27 undo()", x.undo(), true);
    D.due("9 person(0, 0)", x.person(0, 0), 1);
  }

  /** The draws of a seed, told anew. */
  static long draw(long[] x, int m) {
    x[0] = (1103515245L * x[0] + 12345) % 2147483648L;
    return x[0] / 64 % m;
  }

  static void days() {
    String text = "place a;person p at a;person q at a;person r at a;thing t weighs 1;thing u weighs 1;knows p t 1;knows q u 1;say points+1;hear points+1;fade points;";
    int[] seeds = {1, 0, 77, Integer.MAX_VALUE, 123456789};
    for (int seed : seeds) {
      for (int busy = 0; busy <= 100; busy += 25) {
        RisingSnow x = D.told(text + "busy " + busy + ";", 12);
        if (seed != 1) {
          D.due("28 seed(" + seed + ")", x.seed(seed), true);
        }
        int[][] points = {{1, 0}, {0, 1}, {0, 0}};
        long[] s = {seed};
        for (int n = 1; n <= 40; n += 13) {
          D.due("26 days(" + n + ")", x.days(n), 0);
          for (int i = 0; i < n; i++) {
            if (draw(s, 100) < busy) {
              int who = (int) draw(s, 3);
              int which = (int) draw(s, 2);
              for (int p = 0; p < 3 && points[who][which] > 0; p++) {
                if (p != who) {
                  points[p][which] = Math.min(99, points[p][which] + 1);
                }
              }
              points[who][which] = points[who][which] > 0 ? Math.min(99, points[who][which] + 1) : 0;
            }
          }
          for (int p = 0; p < 3; p++) {
            D.due("26 points(" + p + ", 0) by seed " + seed, x.points(p, 0), points[p][0]);
            D.due("26 points(" + p + ", 1) by seed " + seed, x.points(p, 1), points[p][1]);
          }
        }
        D.due("26 one act a call", x.has(8), 4);
        D.due("27 undo()", x.undo(), true);
        D.due("27 has(3)", x.has(3), 1 + 14 + 27);
      }
    }
    RisingSnow x = D.told("place a;person p at a;thing t weighs 2;knows p t 3;fade points-1;", 5);
    D.due("26 forgotten", x.days(5), 1);
    D.due("26 days(0)", x.days(0), -1);
    D.due("26 days(101)", x.days(101), -1);
    D.due("33 status(3)", x.status(3), 2);
    D.due("26 days(100)", x.days(100), 0);
    D.due("28 seed(-1)", x.seed(-1), false);
    D.due("28 seed(min)", x.seed(Integer.MIN_VALUE), false);
    D.due("28 seed(0)", x.seed(0), true);
    D.due("33 status(5)", x.status(5), 2);
    seedStays();
  }

  /** undo() and valley() leave the seed; refused days() draw nothing; without people or things one draw a day. */
  static void seedStays() {
    String[] bare = {"busy 100;", "place a;person p at a;busy 100;", "thing t weighs 1;busy 100;"};
    String text = "place a;person p at a;person q at a;thing t weighs 1;knows p t 1;knows q t 1;say points+1;busy 50;";
    for (String first : bare) {
      RisingSnow x = new RisingSnow();
      Due.feed(x, first);
      x.valley();
      long[] s = {1};
      D.due("26 days(2)", x.days(2), 0);
      D.due("26 days(101)", x.days(101), -1);
      D.due("26 days(1)", x.days(1), 0);
      D.due("27 undo()", x.undo(), true);
      for (int i = 0; i < 3; i++) {
        draw(s, 100);
      }
      Due.feed(x, text);
      D.due("4 valley()", x.valley(), 8);
      int[] points = {1, 1};
      for (int i = 0; i < 30; i++) {
        if (draw(s, 100) < 50) {
          points[(int) draw(s, 2)]++;
          draw(s, 1);
        }
      }
      x.days(30);
      D.due("26 points of p", x.points(0, 0), points[0]);
      D.due("26 points of q", x.points(1, 0), points[1]);
    }
  }

  static void undoing() {
    RisingSnow x = D.told("place a;place b;way a b takes 1;person p at a;thing t weighs 2;thing u weighs 1;knows p t 3;knows p u 90;fade points-2;rise 1;", 10);
    D.due("27 nothing yet", x.undo(), false);
    D.due("33 status(4)", x.status(4), 1);
    x.nights(2);
    x.take(0, 0);
    x.go(0, 1);
    x.say(0, 1);
    x.say(5, 5);
    D.due("6 refused ones are none", x.has(8), 4);
    D.due("10 points(0, 1)", x.points(0, 1), 99);
    D.due("27 undo say", x.undo(), true);
    D.due("10 points(0, 1)", x.points(0, 1), 86);
    D.due("27 undo go", x.undo(), true);
    D.due("9 person(0, 0)", x.person(0, 0), 0);
    D.due("10 points(0, 0)", x.points(0, 0), 30);
    D.due("27 undo take", x.undo(), true);
    D.due("10 points(0, 0)", x.points(0, 0), 0);
    D.due("11 lies(0, 0)", x.lies(0, 0), 1);
    D.due("8 thing(0, 4)", x.thing(0, 4), 1);
    D.due("27 undo both nights", x.undo(), true);
    D.due("10 points(0, 0)", x.points(0, 0), 3);
    D.due("6 has(3)", x.has(3), 0);
    D.due("6 has(5)", x.has(5), 0);
    D.due("6 has(6)", x.has(6), 0);
    D.due("8 thing(0, 4)", x.thing(0, 4), 0);
    D.due("27 undo()", x.undo(), false);
    for (int i = 0; i < 47; i++) {
      x.nights(1);
      D.due("6 has(8)", x.has(8), Math.min(20, i + 1));
    }
    for (int i = 0; i < 20; i++) {
      D.due("27 undo()", x.undo(), true);
      D.due("6 has(3)", x.has(3), 46 - i);
    }
    D.due("27 the last 20", x.undo(), false);
    D.due("33 status(4)", x.status(4), 3);
  }

  static void lastDay() {
    RisingSnow x = D.told("place a;person p at a;thing t weighs 9;knows p t 1;", 4);
    image(x, 9900, 0, 5, 0, 0, 0);
    D.due("25 beyond day 9999", x.nights(100), -1);
    D.due("26 beyond day 9999", x.days(100), -1);
    D.due("25 nights(98)", x.nights(98), 0);
    D.due("26 days(1)", x.days(1), 0);
    D.due("6 has(3)", x.has(3), 9999);
    D.due("25 nights(1)", x.nights(1), -1);
    D.due("26 days(1)", x.days(1), -1);
    D.due("33 status(3)", x.status(3), 4);
    D.due("22 say(0, 0)", x.say(0, 0), 0);
    D.due("6 has(8)", x.has(8), 3);
  }
}
