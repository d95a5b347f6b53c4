/** Promise 29 (ask), and promise 5 (fault) of QUESTIONS. */
public final class QuestionTest {
  static final Due D = new Due("QuestionTest");
  static RisingSnow x;

  public static void main(String[] args) {
    x = D.told("place a;place b;person p at a;person q at b;thing t weighs 2;thing u weighs 5 from t;thing v weighs 3 from t u;"
        + "knows p t 7;knows p v 1;knows q t 2;knows q u 30;fade points;rise 1;", 13);
    x.nights(1);
    words();
    sums();
    tests();
    ends();
    faults();
    nobody();
    withoutThings();
    D.close();
  }

  static void due(String question, long want) {
    D.due("29 " + question, D.ask(x, 0, question), want);
    D.due("5 fault(0) of " + question, x.fault(0), 0);
    D.due("5 fault(1) of " + question, x.fault(1), -1);
  }

  static void faulty(String question, int fault, int at) {
    D.due("29 " + question, D.ask(x, 0, question), RisingSnow.NOTHING);
    D.due("5 fault(0) of " + question, x.fault(0), fault);
    D.due("5 fault(1) of " + question, x.fault(1), at);
  }

  /** Of p, who has forgotten v: 2 of it lie in a, 1 is gone. */
  static void words() {
    due("total number", 3);
    due("total weighs", 10);
    due("total hangs", 3);
    due("total know", 3);
    due("total lies", 2);
    due("total gone", 1);
    due("total lies*number", 4);
    due("total points number", 7);
    due("total points 0", 21);
    due("total points(1)", 0);
    due("total points(0-1)", 0);
    due("total points 3", 0);
    due("total points 9999", 0);
    due("most points (number-1)", 7);
    due("total points points gone", 7);
    due("total points number*2", 14);
    D.due("29 of q", D.ask(x, 1, "total points number"), 32);
    D.due("29 of q", D.ask(x, 1, "first points number>9"), 1);
  }

  static void sums() {
    due("most 0-weighs", -2);
    due("least 0-weighs", -5);
    due("least weighs", 2);
    due("most weighs", 5);
    due("total 1000*1000", 3000000);
    due("total 0-1001*1000", -3000000);
    due("total weighs/0", 0);
    due("total (0-weighs)/2", -1 - 3 - 2);
    due("total min(weighs,3)*max(number,1)", 2 + 3 + 6);
    due("most 10-3-2", 5);
    due("most 7/2*2", 6);
    due("\n most\n0007", 7);
  }

  static void tests() {
    due("often all", 3);
    due("often not all", 0);
    due("often weighs>2", 2);
    due("often weighs<3", 1);
    due("often weighs=3", 1);
    due("often number=0 or number=1 and weighs=0", 1);
    due("often [number=0 or number=1] and weighs=0", 0);
    due("often not number=0 and number<2", 1);
    due("often not [number=0 and number<2]", 2);
    due("often not not all", 3);
    due("often (number)=(0)", 1);
    due("often[all]", 3);
    due("often points number=0 and not hangs=2", 1);
    faulty("often 1=1and", 1, 9);
    faulty("often 1=1 and 1", 1, 15);
  }

  static void ends() {
    due("first number>0", 1);
    due("last number>0", 2);
    due("first all", 0);
    due("first weighs>8", -1);
    due("last weighs>8", -1);
    due("last hangs=0", 0);
  }

  static void faults() {
    faulty("", 1, 0);
    faulty("  ", 1, 2);
    faulty("often", 1, 5);
    faulty("often ", 1, 6);
    faulty("oftenall", 1, 0);
    faulty("place", 1, 0);
    faulty("abcdefgh", 1, 0);
    faulty("7", 1, 0);
    faulty("often alle", 1, 6);
    faulty("often not", 1, 9);
    faulty("often [", 1, 7);
    faulty("often 1+", 1, 8);
    faulty("often 1*", 1, 8);
    faulty("often all and", 1, 13);
    faulty("total min", 1, 9);
    faulty("total max(", 1, 10);
    faulty("total max(1,", 1, 12);
    faulty("total (", 1, 7);
    faulty("total 1+2*", 1, 10);
    faulty("often all;", 1, 9);
    faulty("often all all", 1, 10);
    faulty("often all or", 1, 12);
    faulty("often weighs", 1, 12);
    faulty("often weighs>", 1, 13);
    faulty("often weighs>1>1", 1, 14);
    faulty("often (weighs>1)", 1, 13);
    faulty("often [weighs]", 1, 13);
    faulty("often [all", 1, 10);
    faulty("often [all)", 1, 10);
    faulty("often day=1", 1, 6);
    faulty("total day", 1, 6);
    faulty("total all", 1, 6);
    faulty("total not all", 1, 6);
    faulty("total weighs=1", 1, 12);
    faulty("total points", 1, 12);
    faulty("total points+1", 1, 12);
    faulty("total points1", 1, 12);
    faulty("total points 12345", 1, 17);
    faulty("total song", 1, 6);
    faulty("total numbers", 1, 6);
    faulty("total 1 2", 1, 8);
    faulty("total 1weighs", 1, 7);
    faulty("total 10000", 1, 10);
    faulty("total min(1)", 1, 11);
    faulty("total (1", 1, 8);
    faulty("total 1)", 1, 7);
    faulty("total ((((((((1", 4, 12);
    due("total ((((((1))))))", 3);
    due("often not not not not not not all", 3);
    faulty("often not not not not not not not all", 4, 30);
    due("often [[[[[[all]]]]]]", 3);
    faulty("often [[[[[[[all", 4, 12);
    due("total points points points points points points 0", 0);
    faulty("total points points points points points points points 0", 4, 48);
    faulty("often [not [not (points (1))=0]]", 4, 24);
    due("often not not [[(points 0)>0]]", 3);
    due("often not all or not all or not all or not all or not all or not all or not all or all", 3);
    due("total points 0+points 0+points 0+points 0+points 0+points 0+points 0+points 0", 168);
    faulty("often not [not [(points(1))=0]]", 4, 23);
    faulty("often not [not [((min(1,2)))=0]]", 4, 21);
  }

  static void nobody() {
    Due.feed(x, "often");
    D.due("29 ask(0)", x.ask(0), RisingSnow.NOTHING);
    Due.feed(x, "often all");
    D.due("29 ask(2)", x.ask(2), RisingSnow.NOTHING);
    D.due("29 the tape of nobody goes", x.feed(0, 0, 0, 0, 0), 20);
    x.end(0);
    D.due("5 the fault stays", x.fault(0), 1);
    D.due("5 the fault's place stays", x.fault(1), 5);
    D.due("29 often all", D.ask(x, 1, "often all"), 3);
    D.due("29 ask(-1)", D.ask(x, -1, "often"), RisingSnow.NOTHING);
    D.due("5 no fault of nobody", x.fault(0), 0);
    D.due("5 no place of nobody", x.fault(1), -1);
    D.due("29 the tape goes", x.feed(0, 0, 0, 0, 0), 20);
    D.due("29 ask(0)", x.ask(0), RisingSnow.NOTHING);
    D.due("29 the tape goes", x.feed(0, 0, 0, 0, 0), 20);
    x.end(0);
    for (int i = 0; i < 6; i++) {
      D.due("29 nothing is refused", x.status(i), 0);
    }
  }

  static void withoutThings() {
    x = D.told("place a;person p at a;", 2);
    due("total 1", 0);
    due("most 1", 0);
    due("least 1", 0);
    due("often all", 0);
    due("first all", -1);
    due("last all", -1);
    due("most points 0", 0);
  }
}
