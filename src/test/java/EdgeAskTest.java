import java.io.IOException;

/** The edges of QUESTIONS, in part IV of the document and promise 29: a test for each sentence that names one. */
public final class EdgeAskTest {
  static Due d;
  static RisingSnow x;

  public static void main(String[] args) throws IOException {
    d = new Due("EdgeAskTest", args);
    firstAndLast();
    counts();
    withoutThings();
    joined();
    facts();
    signs();
    parts();
    numbersOfThings();
    firstByte();
    unknownWords();
    behindIt();
    depth();
    untilItsEnd();
    ask();
    nobody();
    d.close();
  }

  /** Three THINGS, of which 9 of the first lie in two places, 5 of the second are gone; p in b, q in a. */
  static void newValley() {
    x = d.told("place a;place b;person p at b;person q at a;thing t weighs 2;thing u weighs 5 from t;thing v weighs 3 from t u;");
    d.on(x, 7, new int[][] {{1, 40, 0, 1}, {0, 99, 7, 0}}, new int[][] {{0, 0, 4, 5}, {1, 5, 0, 0}, {0, 9999, 0, 999}});
  }

  static void is(String question, long due) {
    newValley();
    d.due(question, d.ask(x, 0, question), due);
    d.due("fault(0) of " + question, x.fault(0), 0);
    d.due("fault(1) of " + question, x.fault(1), -1);
    d.due("the tape goes", x.end(1), false);
  }

  /** A question whose FAULT is where the sign | stands. */
  static void faulty(int fault, String marked) {
    String question = marked.replace("|", "");
    newValley();
    d.due(question, d.ask(x, 0, question), -1000000000000000L);
    d.due("fault(0) of " + question, x.fault(0), fault);
    d.due("fault(1) of " + question, x.fault(1), marked.indexOf('|'));
    d.due("the tape goes", x.end(1), false);
    d.due("nothing is refused", x.status(1), 0);
  }

  static void firstAndLast() {
    d.says("first TEST, last TEST (the first, the last THING of which it holds)");
    is("first all", 0);
    is("last all", 2);
    is("first number>0", 1);
    is("last number<2", 1);
    is("first weighs=3", 2);
    is("last weighs=2", 0);
    d.says("NONE of first, last, when its TEST holds of none");
    is("first number>2", -1);
    is("last number>2", -1);
    is("first not all", -1);
    is("last not all", -1);
    is("often not all", 0);
  }

  static void counts() {
    d.says("often TEST (of how many), total SUM (of all together), most SUM, least SUM (the greatest, the least of all;");
    is("often all", 3);
    is("often number>0", 2);
    is("often number>2", 0);
    is("total 1", 3);
    is("total weighs", 10);
    is("total 0-weighs", -10);
    is("most weighs", 5);
    is("least weighs", 2);
    is("most 0-weighs", -2);
    is("least 0-weighs", -5);
    is("most 0-number", 0);
    is("least 0-number-1", -3);
    is("total 9999*9999", 3000000);
    is("total 0-9999*9999", -3000000);
    is("most 0-9999*9999", -1000000);
    is("least 9999*9999", 1000000);
  }

  static void withoutThings() {
    d.says("the greatest, the least of all; 0 without THINGS)");
    RisingSnow y = d.told("place a;person p at a;");
    for (String question : "total 1,most 1,least 1,most 0-1,least 0-1,total 9999,often all".split(",")) {
      d.due(question, d.ask(y, 0, question), 0);
    }
    d.due("first all", d.ask(y, 0, "first all"), -1);
    d.due("last all", d.ask(y, 0, "last all"), -1);
    d.due("most x", d.ask(y, 0, "most x"), -1000000000000000L);
  }

  static void joined() {
    d.says("TEST: BOTH { or BOTH }. BOTH: FACT { and FACT }.");
    is("often number=0 or number=2", 2);
    is("often number=0 and number=2", 0);
    is("often number=0 or number=1 or number=2", 3);
    is("often number>0 and number<2 and weighs=5", 1);
    is("often all or all and not all", 3);
    is("often not all and all or all", 3);
    is("often not all and all or not all", 0);
    is("often [all or all] and not all", 0);
    is("often all and not all or number=1", 1);
  }

  static void facts() {
    d.says("FACT: not FACT; [ TEST ] ; all; SUM SIGN SUM");
    is("often not number=1", 2);
    is("often not not number=1", 1);
    is("often not [number=1 or number=2]", 1);
    is("often not number=1 and number=1", 0);
    is("often not number=1 or number=1", 3);
    is("often [[number=1]]", 1);
    is("often (number)=1", 1);
    is("often (number+1)*2=4", 1);
    is("often[all]and[all]or[not all]", 3);
    is("often 1+1=2", 3);
    faulty(1, "often 1+1|");
    faulty(1, "often [1|]");
    faulty(1, "often (|all)");
    faulty(1, "often (1|=1)");
    faulty(1, "often all|=1");
  }

  static void signs() {
    d.says("SIGN < or > or =");
    is("often number<1", 1);
    is("often number<0", 0);
    is("often number>1", 1);
    is("often number>2", 0);
    is("often number=1", 1);
    is("often 0-1<0", 3);
    is("often 0<0-1", 0);
    is("often 0=0-1", 0);
    faulty(1, "often number<|=1");
    faulty(1, "often number>|>1");
    faulty(1, "often number=|=1");
    faulty(1, "often 1<2|<3");
    faulty(1, "often 1|!2");
  }

  static void parts() {
    d.says("(The THING's number; how much of it lies in all PLACES, is GONE;");
    is("total number", 3);
    is("most number", 2);
    is("first lies=9", 0);
    is("most lies", 999);
    is("total lies", 1008);
    is("first gone=5", 1);
    is("most gone", 9999);
    is("total gone", 10004);
    is("total know*(number+1)", 2 + 2 + 3);
    is("most hangs", 2);
    is("least hangs", 0);
    faulty(1, "total |day");
    is("total min(number,1)", 2);
    is("total max(number,1)", 4);
    d.says("his points of the THING of that number");
    is("total points number", 41);
    is("most points number", 40);
    is("total points 0", 120);
    is("first points number=1", 2);
    is("total points number*2", 82);
    is("most points(number*2)", 40);
    is("first points(number*2)=1", 1);
    is("total points points 1", 120);
    newValley();
    d.due("of q", d.ask(x, 1, "total points number"), 106);
    d.due("of q", d.ask(x, 1, "most points 0"), 99);
  }

  static void numbersOfThings() {
    d.says("0 of numbers that there are not");
    is("most points 2", 1);
    is("most points 3", 0);
    is("most points 9", 0);
    is("most points 10", 0);
    is("most points 9999", 0);
    is("most points(0-1)", 0);
    is("most points(0-9999*9999)", 0);
    is("most points(9999*9999)", 0);
    is("total points(number+1)", 1);
    is("total points(number-1)", 40);
    // of one who KNEW ten THINGS in another valley
    StringBuilder ten = new StringBuilder("place a;person p at a;");
    for (char c = 'b'; c < 'l'; c++) {
      ten.append("thing ").append(c).append(" weighs 1;knows p ").append(c).append(" 50;");
    }
    RisingSnow y = d.told(ten.toString());
    d.due("the tenth", d.ask(y, 0, "most points 9"), 50);
    d.due("an eleventh", d.ask(y, 0, "most points 10"), 0);
    Due.feed(y, "place a;person p at a;thing t weighs 1;knows p t 5;");
    d.due("valley()", y.valley(), 4);
    d.due("a second", d.ask(y, 0, "most points 1"), 0);
    d.due("the first", d.ask(y, 0, "most points 0"), 5);
  }

  // Each place of a QUESTION: what stands ahead of it, what can't stand there.
  static final String[][] PLACES = {
      {"", "x 7 all not [ ( number oftenall often1 A ?"},
      {"often ", "x 7x day first takes abcdefgh or and ) ] < + - * , ; A ?"},
      {"often not ", "x day or and ) ] < + A ?"},
      {"often [", "x day or and ) ] < + A ?"},
      {"often [all ", "x 7 all not [ ( < + ) ; A ?"},
      {"often all ", "x 7 all not [ ( ) ] < + = ; A ?"},
      {"often all or ", "x day or and ) ] < + A ?"},
      {"often all and ", "x day or and ) ] < + A ?"},
      {"often 1", "all not [ ( ) ] or and , ; A ?"},
      {"often 1=", "all not [ ) ] or and , ; < A ?"},
      {"often 1=1 ", "all not [ ( ) ] 1 , ; < number A ?"},
      {"total ", "x all not [ ) ] or and , ; < + - first day A ?"},
      {"total 1", "all not [ ( ) ] or and , ; < number A ?"},
      {"total 1+", "all not [ ) ] or and , ; < + A ?"},
      {"total 1*", "all not [ ) ] or and , ; < + A ?"},
      {"total points ", "all not [ ) ] or and , ; < + day A ?"},
      {"total points 1 ", "all not [ ( ) ] 1 or and , ; < number A ?"},
      {"total (", "all not [ ) ] or and , ; < + A ?"},
      {"total (1", "all not [ ( ] or and , ; < number A ?"},
      {"total min ", "all not [ ) ] or , ; < + 1 number A ?"},
      {"total max ", "all not [ ) ] or , ; < + 1 number A ?"},
      {"total min(", "all not [ ) ] or and , ; < + A ?"},
      {"total min(1", "all not [ ( ) ] or and ; < number A ?"},
      {"total max(1,", "all not [ ) ] or and , ; < + A ?"},
      {"total max(1,2", "all not [ ( ] or and , ; < number A ?"},
      {"total max(1,2)", "all not [ ( ) ] or and , ; < 1 number A ?"}};

  static void firstByte() {
    d.says("Its FAULTS: 1 as in I");
    for (String[] place : PLACES) {
      for (String wrong : place[1].split(" ")) {
        boolean within = wrong.equals("7x") || wrong.equals("often1");
        String marked = within ? wrong.substring(0, wrong.length() - 1) + "|" + wrong.substring(wrong.length() - 1) : "|" + wrong;
        faulty(1, place[0] + marked);
        if (!within && !wrong.matches("[a-z0-9]+")) {
          faulty(1, place[0] + " \n" + marked + " 1");
        }
      }
    }
    for (String[] place : PLACES) {
      if (!place[0].equals("often all ") && !place[0].equals("often 1=1 ") && !place[0].equals("total 1") && !place[0].equals("total points 1 ")
          && !place[0].equals("total max(1,2)")) {
        faulty(1, place[0] + "|");
        faulty(1, place[0] + " \n |");
      }
    }
    faulty(1, "total 1234|5");
    faulty(1, "total 0000|0");
    faulty(1, "often 1=1234|5");
    faulty(1, "total points 0000|0");
    faulty(1, "total points|1");
    faulty(1, "total 1|and");
    faulty(1, "often 1=1|or all");
    faulty(1, "total|1");
    is(" \n total \n 0009 \n ", 27);
    is("total(1)", 3);
  }

  static void unknownWords() {
    d.says("an unknown word at its first byte");
    for (String word : "x numbe numbers abcdefgh abcdefghijklmnop t u p a day takes place".split(" ")) {
      faulty(1, "total |" + word);
      faulty(1, "total 1+ |" + word);
      faulty(1, "often |" + word + ">1");
      faulty(1, "|" + word + " all");
    }
  }

  static void behindIt() {
    d.says("what stands behind it, too");
    for (String behind : "; x 7 all 12345 abcdefgh ] ) ? A".split(" ")) {
      faulty(1, "often all |" + behind);
      faulty(1, "total number |" + behind);
      faulty(1, "often 1=1 |" + behind);
    }
    is("often all \n ", 3);
    is("total number \n", 3);
  }

  static void depth() {
    d.says("4 the 7th of ( [ not points that is open at once");
    is("total ((((((1))))))", 3);
    faulty(4, "total ((((((|(1)))))))");
    is("often [[[[[[all]]]]]]", 3);
    faulty(4, "often [[[[[[|[all]]]]]]]");
    is("often not not not not not not all", 3);
    faulty(4, "often not not not not not not |not all");
    is("total points points points points points points 9", 120);
    faulty(4, "total points points points points points points |points 0");
    is("often [not [not (points 0)=40]]", 3);
    faulty(4, "often [not [not [(|points 0)=0]]]");
    faulty(4, "often [not [not (points |(0))=0]]");
    is("total min(max(min(max(min(max(1,2),3),4),5),6),7)", 18);
    faulty(4, "total min(max(min(max(min(max(min|(1,2),3),4),5),6),7),8)");
    faulty(1, "often not[not[not[|");
    faulty(4, "often not[not[not[|[");
    faulty(4, "often not [not [not [ |(1)=1]]]");
    faulty(4, "often not [not [not [ |points 1=1]]]");
    faulty(4, "often not [not [not [ |not all]]]");
    faulty(4, "often not [not [not [ min |(1,2)=1]]]");
    faulty(4, "often not [not [not [ |[ all]]]]");
    is("often not [not [not [ 1=2]]]", 3);
    is("often not [not [not [ number=1]]]", 2);
  }

  static void untilItsEnd() {
    d.says("(not until its FACT, points until its PART ends), at it");
    is("often not all or not all or not all or not all or not all or not all or not all or all", 3);
    is("often not all and all or not [[[[[all]]]]] or all", 3);
    faulty(4, "often not [[[[[|[all]]]]]]");
    is("often not 1=(((((1)))))", 0);
    faulty(4, "often not 1=(((((|(1))))))");
    is("often not 1=2 and 1=((((((1))))))", 3);
    is("total points 0+points 0+points 0+points 0+points 0+points 0+points 0+((((((1))))))", 843);
    is("total points (((((0)))))", 120);
    faulty(4, "total points (((((|(0))))))");
    is("total points (0)*((((((1))))))", 120);
    is("total points points (0)+((((((1))))))", 3);
    is("often [all] and [all] and [all] and [all] and [all] and [all] and [all] and [[[[[[all]]]]]]", 3);
    is("total (1)+(1)+(1)+(1)+(1)+(1)+(1)+((((((1))))))", 24);
  }

  static void ask() {
    d.says("The tape (it goes) is a QUESTION of one: its answer;");
    newValley();
    d.due("ask(0)", d.ask(x, 0, "total points number"), 41);
    d.due("the tape goes", x.feed(0, 0, 0, 0, 0), 20);
    d.due("ask(0) of 20 bytes 0", x.ask(0), -1000000000000000L);
    d.due("the tape goes", x.feed(0, 0, 0, 0, 0), 20);
    x.end(0);
    d.due("ask(0) of an empty tape", x.ask(0), -1000000000000000L);
    d.due("fault(0)", x.fault(0), 1);
    d.due("fault(1)", x.fault(1), 0);
    newValley();
    d.due("1600 bytes", d.ask(x, 0, "total 1" + " ".repeat(1586) + "+number"), 6);
    newValley();
    d.due("1600 bytes", d.ask(x, 0, "total 1" + "+1".repeat(796) + " "), 3 * 797);
    newValley();
    d.due("1600 bytes with a fault", d.ask(x, 0, "total 1" + "+1".repeat(796) + "+"), -1000000000000000L);
    d.due("fault(1)", x.fault(1), 1600);
    d.says("NOTHING with a FAULT");
    faulty(1, "total|");
    faulty(4, "total ((((((|(");
    d.due("a valley has no question", d.ask(d.told("place a;person p at a;"), 0, "place a;"), -1000000000000000L);
  }

  static void nobody() {
    d.says("or, doing nothing else, when there is none such");
    for (int person : new int[] {2, 6, -1, Integer.MAX_VALUE, Integer.MIN_VALUE}) {
      newValley();
      d.due("with a fault", d.ask(x, 0, "often"), -1000000000000000L);
      d.due("ask(" + person + ")", d.ask(x, person, "often all"), -1000000000000000L);
      d.due("fault(0) stays", x.fault(0), 1);
      d.due("fault(1) stays", x.fault(1), 5);
      d.due("the tape goes", x.feed(0, 0, 0, 0, 0), 20);
      x.end(0);
      d.due("without one", d.ask(x, 1, "often all"), 3);
      d.due("ask(" + person + ")", d.ask(x, person, "often"), -1000000000000000L);
      d.due("fault(0) stays", x.fault(0), 0);
      d.due("fault(1) stays", x.fault(1), -1);
      for (int what = 0; what < 6; what++) {
        d.due("nothing is refused", x.status(what), 0);
      }
    }
    d.due("without a valley", d.ask(new RisingSnow(), 0, "often all"), -1000000000000000L);
  }
}
