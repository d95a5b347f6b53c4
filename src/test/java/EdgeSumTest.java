import java.io.IOException;

/** The edges of SUMS, in part I of the document: a test for each sentence that names one. */
public final class EdgeSumTest {
  static Due d;

  public static void main(String[] args) throws IOException {
    d = new Due("EdgeSumTest", args);
    fromTheLeft();
    quotients();
    cutAbove();
    cutBelow();
    cutWhereverItIs();
    words();
    wordsOfRise();
    minAndMax();
    d.close();
  }

  /** What a SUM is, in a QUESTION of one THING. */
  static void is(String sum, long due) {
    d.due(sum, d.ask(d.told("place a;person p at a;thing t weighs 1;"), 0, "total " + sum), due);
  }

  /** What a SUM of numbers is in fade, say, hear, rise, which tell of it 0 to 99 alone. */
  static void isInRules(String sum, int due) {
    RisingSnow x = d.told("place a;person p at a;thing t weighs 9;knows p t 1;fade " + sum + ";");
    x.nights(1);
    d.due("fade " + sum, x.points(0, 0), due);
    x = d.told("place a;person p at a;person q at a;thing t weighs 9;knows p t 1;say " + sum + ";hear 1+(" + sum + ");");
    d.due("say(0, 0)", x.say(0, 0), 1);
    d.due("say " + sum, x.points(0, 0), Math.max(1, due));
    d.due("hear 1+" + sum, x.points(1, 0), Math.min(99, due + 1));
    x = d.told("place a;person p at a;thing t weighs 9;rise " + sum + ";");
    d.on(x, 0, new int[][] {{0, 0}}, new int[][] {{0, 0, 999}});
    x.nights(1);
    d.due("rise " + sum, x.thing(0, 3), due);
  }

  static void fromTheLeft() {
    d.says("All from the left on");
    is("20-5-3", 12);
    is("20-5+3", 18);
    is("100/10/5", 2);
    is("7/2*2", 6);
    is("2*7/2", 7);
    is("7*2/3*2", 8);
    is("2+3*4", 14);
    is("20-2*3-4", 10);
    is("1-2*3+8/3", -3);
    isInRules("20-5-3", 12);
    isInRules("7/2*2", 6);
    isInRules("2+3*4", 14);
  }

  static void quotients() {
    d.says("/ gives the greatest whole number not above");
    is("6/2", 3);
    is("7/2", 3);
    is("1/2", 0);
    is("0/5", 0);
    is("(0-1)/2", -1);
    is("(0-6)/2", -3);
    is("(0-7)/2", -4);
    is("(0-8)/2", -4);
    is("7/(0-2)", -4);
    is("6/(0-2)", -3);
    is("1/(0-9999)", -1);
    is("(0-7)/(0-2)", 3);
    is("(0-1)/(0-2)", 0);
    is("(0-1)/9999", -1);
    isInRules("50+(0-7)/2", 46);
    isInRules("50+7/(0-2)", 46);
    d.says("by 0 it gives 0");
    is("7/0", 0);
    is("0/0", 0);
    is("(0-7)/0", 0);
    is("5+7/0", 5);
    is("7/(3-3)", 0);
    is("7/0*5+2", 2);
    isInRules("33+5/0", 33);
    isInRules("33+5/(0*7)", 33);
    RisingSnow x = d.told("place a;person p at a;thing t weighs 1;knows p t 9;fade 40+9/day;");
    x.nights(1);
    d.due("by a day of 0", x.points(0, 0), 40);
    x.nights(1);
    d.due("by a day of 1", x.points(0, 0), 49);
  }

  static void cutAbove() {
    d.says("each sum, difference, product above 10 to the 6 is that");
    is("1000*1000", 1000000);
    is("999*1001", 999999);
    is("1000*1000-1", 999999);
    is("1000*1001", 1000000);
    is("9999*9999", 1000000);
    is("1000*1000*9999*9999*9999", 1000000);
    is("(0-1000)*(0-1001)", 1000000);
    is("999*1001+1", 1000000);
    is("999*1001+2", 1000000);
    is("1000*1000+1000*1000", 1000000);
    is("999*1001-(0-1)", 1000000);
    is("999*1001-(0-2)", 1000000);
    is("1000*1000-(0-1000*1000)", 1000000);
    isInRules("1000*1001/1000-950", 50);
    isInRules("(1000*1000+9999)/1000-950", 50);
    isInRules("(1000*1000-(0-9999))/1000-950", 50);
  }

  static void cutBelow() {
    d.says("below -10 to the 6 likewise");
    is("0-1000*1000", -1000000);
    is("0-999*1001", -999999);
    is("(0-1000)*1001", -1000000);
    is("(0-9999)*9999", -1000000);
    is("1000*(0-1001)", -1000000);
    is("0-999*1001-1", -1000000);
    is("0-999*1001-2", -1000000);
    is("0-1000*1000-1000*1000", -1000000);
    is("0-999*1001+(0-1)", -1000000);
    is("0-999*1001+(0-2)", -1000000);
    is("0-1000*1000+(0-1000*1000)", -1000000);
    isInRules("(0-1000*1001)/1000+1050", 50);
    isInRules("(0-1000*1000-9999)/1000+1050", 50);
    isInRules("(0-1000*1000+(0-9999))/1000+1050", 50);
  }

  static void cutWhereverItIs() {
    d.says("each sum, difference, product above 10 to the 6 is that, below -10 to the 6 likewise");
    is("1000*1001-1000", 999000);
    is("1000*1000+500-500", 999500);
    is("0-1000*1001+1000", -999000);
    is("9999*9999/9999", 100);
    is("(9999*9999-9999*9999)", 0);
    is("min(9999*9999,1000*999)", 999000);
    is("max(0-9999*9999,0-1000*999)", -999000);
    is("(1000*1000)/(0-1)", -1000000);
    is("(0-1000*1000)/(0-1)", 1000000);
    d.due("of three things together", d.ask(d.told("place a;person p at a;thing t weighs 1;thing u weighs 1;thing v weighs 1;"), 0,
        "total 1000*1000"), 3000000);
  }

  static void words() {
    d.says("Of a THING how much it weighs, how many of the PEOPLE KNOW it, the DAY; one's points of it, how many THINGS it hangs on");
    String text = "place a;place b;person p at a;person q at b;person r at a;thing y weighs 1;thing z weighs 9;thing t weighs 7 from y z;"
        + "knows p y 99;knows p z 99;knows q y 99;knows q z 99;knows p t 9;knows q t 1;";
    String[] sums = {"weighs", "know", "day", "points", "hangs", "day*10+know"};
    int[] due = {7, 2, 3, 9, 2, 32};
    for (int i = 0; i < sums.length; i++) {
      RisingSnow x = d.told(text + "fade max(points,min(hangs,1)*40+" + sums[i] + ");");
      Due.feed(x, Due.image(3, new int[][] {{0, 99, 99, 9}, {1, 99, 99, 1}, {0, 0, 0, 0}},
          new int[][] {{0, 0, 0, 0}, {0, 0, 0, 0}, {0, 0, 0, 0}}));
      d.due("on()", x.on(), true);
      d.due("nights(1)", x.nights(1), 0);
      d.due("fade 40+" + sums[i], x.points(0, 2), 40 + due[i]);
    }
    for (int i = 0; i < sums.length; i++) {
      RisingSnow x = d.told(text + "say 40+" + sums[i] + ";");
      x.nights(3);
      d.due("say(0, 2)", x.say(0, 2), 0);
      d.due("say 40+" + sums[i], x.points(0, 2), 40 + due[i]);
    }
    for (int i = 0; i < sums.length; i++) {
      RisingSnow x = d.told(text + "say points;hear 40+" + sums[i] + ";way b a takes 1;");
      x.nights(3);
      d.due("go(1, 0)", x.go(1, 0), true);
      d.due("say(1, 2)", x.say(1, 2), 1);
      d.due("hear 40+" + sums[i], x.points(0, 2), 40 + due[i]);
      d.due("one who does not know what it hangs on", x.points(2, 2), 0);
    }
  }

  static void wordsOfRise() {
    d.says("how much of it lies there");
    String[] sums = {"lies", "lies-1", "weighs", "know", "day", "max(0,lies-20)"};
    int[][] gone = {{10, 20, 30}, {9, 19, 29}, {7, 7, 7}, {2, 2, 2}, {5, 5, 5}, {0, 0, 10}};
    for (int i = 0; i < sums.length; i++) {
      RisingSnow x = d.told("place a;place b;place c;person p at a;person q at a;person r at a;thing u weighs 1;thing t weighs 7;rise " + sums[i] + ";");
      d.on(x, 5, new int[][] {{0, 0, 1}, {0, 0, 1}, {0, 1, 0}}, new int[][] {{0, 0, 0, 0, 0}, {0, 0, 10, 20, 30}});
      d.due("nights(1)", x.nights(1), 0);
      for (int place = 0; place < 3; place++) {
        d.due("rise " + sums[i], x.lies(place, 1), 10 * (place + 1) - gone[i][place]);
      }
      d.due("rise " + sums[i], x.thing(1, 3), gone[i][0] + gone[i][1] + gone[i][2]);
      d.due("nothing of another lay", x.thing(0, 3), 0);
    }
  }

  static void minAndMax() {
    d.says("min ( SUM , SUM ) ; max ( SUM , SUM ) ; in fade");
    is("min(3,4)", 3);
    is("min(4,3)", 3);
    is("min(4,4)", 4);
    is("max(3,4)", 4);
    is("max(4,3)", 4);
    is("max(0-4,0-3)", -3);
    is("min(0-4,0-3)", -4);
    is("min(1+2*3,max(2,9)-1)*2", 14);
    isInRules("min(60,max(20,30))", 30);
  }
}
