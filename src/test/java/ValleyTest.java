/** Promises 4 (valley), 5 (fault), 7 (letter), 8 (thing), 12 (way), and the FAULTS of valleys. */
public final class ValleyTest {
  static final Due D = new Due("ValleyTest");
  static final String A = "place a;";
  static final String AB = "place a;place b;";

  public static void main(String[] args) {
    told();
    staysAndGoes();
    noSuchText();
    wordsAndNumbers();
    noSuchNumber();
    noSuchName();
    tooDeep();
    tooMany();
    D.close();
  }

  static void told() {
    RisingSnow x = D.told("place hut;\nplace barrow ;way hut barrow takes 007;way barrow hut takes 99 ;person first at barrow;"
        + "thing least weighs 9;thing u weighs 1 from least;thing v weighs 0002 from u least;knows first u 99;knows first u 0;\n", 10);
    D.due("5 fault(0)", x.fault(0), 0);
    D.due("5 fault(1)", x.fault(1), -1);
    D.due("5 fault(2)", x.fault(2), -1);
    D.due("5 fault(-1)", x.fault(-1), -1);
    String barrow = "barrow";
    for (int k = 0; k < 6; k++) {
      D.due("7 letter(0, 1, " + k + ")", x.letter(0, 1, k), barrow.charAt(k) - 'a' + 1);
    }
    D.due("7 letter(0, 0, 2)", x.letter(0, 0, 2), 20);
    D.due("7 letter(0, 0, 3)", x.letter(0, 0, 3), 0);
    D.due("7 letter(0, 0, 5)", x.letter(0, 0, 5), 0);
    D.due("7 letter(0, 0, 6)", x.letter(0, 0, 6), -1);
    D.due("7 letter(0, 0, -1)", x.letter(0, 0, -1), -1);
    D.due("7 letter(0, 2, 0)", x.letter(0, 2, 0), -1);
    D.due("7 letter(1, 0, 0)", x.letter(1, 0, 0), 6);
    D.due("7 letter(1, 1, 0)", x.letter(1, 1, 0), -1);
    D.due("7 letter(2, 2, 0)", x.letter(2, 2, 0), 22);
    D.due("7 letter(2, -1, 0)", x.letter(2, -1, 0), -1);
    D.due("7 letter(3, 0, 0)", x.letter(3, 0, 0), -1);
    D.due("7 letter(-1, 0, 0)", x.letter(-1, 0, 0), -1);
    D.due("8 thing(0, 0)", x.thing(0, 0), 9);
    D.due("8 thing(2, 0)", x.thing(2, 0), 2);
    D.due("8 thing(0, 1)", x.thing(0, 1), 0);
    D.due("8 thing(1, 1)", x.thing(1, 1), 1);
    D.due("8 thing(2, 1)", x.thing(2, 1), 3);
    D.due("8 thing(1, 2)", x.thing(1, 2), 0);
    D.due("8 thing(3, 0)", x.thing(3, 0), -1);
    D.due("8 thing(-1, 0)", x.thing(-1, 0), -1);
    D.due("8 thing(0, -1)", x.thing(0, -1), -1);
    D.due("8 thing(0, 5)", x.thing(0, 5), -1);
    D.due("12 way(0, 1)", x.way(0, 1), 99);
    D.due("12 way(1, 0)", x.way(1, 0), 99);
    D.due("12 way(1, 1)", x.way(1, 1), -1);
    D.due("12 way(0, 2)", x.way(0, 2), -1);
    D.due("12 way(-1, 0)", x.way(-1, 0), -1);
    D.due("10 the last knows counts", x.points(0, 1), 0);
    D.told("", 0);
    D.told(" \n ", 0);
    D.told("fade((((((1))))));say min(1,max(2,((((3))))));busy 100;busy 0;breaks 999;breaks 0;catch 1;catch 99;thief 0;thief 99;", 10);
  }

  static void staysAndGoes() {
    RisingSnow x = D.told("place a;person p at a;thing t weighs 3;knows p t 5;fade points-9;rise 1;busy 100;", 7);
    x.seed(7);
    D.due("4 nights(1)", x.nights(1), 1);
    Due.feed(x, "place a;place b");
    D.due("4 valley()", x.valley(), -1);
    D.due("5 fault(0)", x.fault(0), 1);
    D.due("5 fault(1)", x.fault(1), 15);
    D.due("4 has(0) stays", x.has(0), 1);
    D.due("4 has(3) stays", x.has(3), 1);
    D.due("4 has(5) stays", x.has(5), 2);
    D.due("4 has(6) stays", x.has(6), 1);
    D.due("4 has(8) stays", x.has(8), 1);
    D.due("4 thing(0, 4) stays", x.thing(0, 4), 1);
    D.due("4 the tape goes", x.feed(0, 0, 0, 0, 0), 20);
    x.end(0);
    D.due("4 valley()", x.valley(), 0);
    D.due("5 fault(0)", x.fault(0), 0);
    D.due("4 the tape goes", x.feed(0, 0, 0, 0, 0), 20);
    x.end(0);
    Due.feed(x, "place c;person q at c;thing u weighs 2;");
    D.due("4 valley()", x.valley(), 3);
    for (int what = 3; what <= 8; what++) {
      D.due("4 has(" + what + ") of a new valley", x.has(what), what == 7 ? 1 : 0);
    }
    D.due("4 thing(0, 4) of a new valley", x.thing(0, 4), 0);
    D.due("4 undo() of a new valley", x.undo(), false);
    D.due("4 points(0, 0) of a new valley", x.points(0, 0), 0);
  }

  static void noSuchText() {
    D.faulty("x", 1, 0);
    D.faulty(";", 1, 0);
    D.faulty(" \n7;", 1, 2);
    D.faulty("Place a;", 1, 0);
    D.faulty("pla", 1, 0);
    D.faulty("placea b;", 1, 0);
    D.faulty("first a;", 1, 0);
    D.faulty("place", 1, 5);
    D.faulty("place  ", 1, 7);
    D.faulty("place ;", 1, 6);
    D.faulty("way ;", 1, 4);
    D.faulty("person ;", 1, 7);
    D.faulty("thing ;", 1, 6);
    D.faulty("thing t;", 1, 7);
    D.faulty("thing t weighs;", 1, 14);
    D.faulty("knows ;", 1, 6);
    D.faulty(A + "person p at a;knows p;", 1, 29);
    D.faulty(A + "person p at a;thing t weighs 1;knows p t;", 1, 48);
    D.faulty(AB + "way a b;", 1, 23);
    D.faulty("place a", 1, 7);
    D.faulty("place a \n", 1, 9);
    D.faulty("place a;;", 1, 8);
    D.faulty("place a b;", 1, 8);
    D.faulty("place A;", 1, 6);
    D.faulty("place \ta;", 1, 6);
    D.faulty("place \u00e4;", 1, 6);
    D.faulty("place " + (char) 0 + ";", 1, 6);
    D.faulty("place number;", 1, 6);
    D.faulty("place max;", 1, 6);
    D.faulty("place 5;", 1, 6);
    D.faulty(AB + "way a b 5;", 1, 24);
    D.faulty(AB + "way a b take 5;", 1, 24);
    D.faulty(AB + "way a b takes a;", 1, 30);
    D.faulty(AB + "way a b takes;", 1, 29);
    D.faulty(AB + "way a;", 1, 21);
    D.faulty(A + "person p a;", 1, 17);
    D.faulty(A + "person p at;", 1, 19);
    D.faulty(A + "person p at at;", 1, 20);
    D.faulty("thing t 1;", 1, 8);
    D.faulty("thing t weighs 1 from", 1, 21);
    D.faulty("thing t weighs 1 knows;", 1, 17);
    D.faulty("thing t weighs 1 abcdefgh;", 1, 17);
    D.faulty("thing t weighs 1;thing u weighs 2 from t weighs;", 1, 41);
    D.faulty("thing t weighs 1;thing u weighs 2 from t 5;", 1, 41);
    D.faulty("thing t weighs 1;thing u weighs 2 from t", 1, 40);
    D.faulty("knows 5", 1, 6);
    D.faulty("fade", 1, 4);
    D.faulty("fade;", 1, 4);
    D.faulty("fade -1;", 1, 5);
    D.faulty("fade 1+;", 1, 7);
    D.faulty("fade 1++1;", 1, 7);
    D.faulty("fade 1 2;", 1, 7);
    D.faulty("fade (1;", 1, 7);
    D.faulty("fade (1", 1, 7);
    D.faulty("fade 1);", 1, 6);
    D.faulty("fade ();", 1, 6);
    D.faulty("fade min 1,2);", 1, 9);
    D.faulty("fade min(1);", 1, 10);
    D.faulty("fade min(1,2,3);", 1, 12);
    D.faulty("fade max(,2);", 1, 9);
    D.faulty("fade number;", 1, 5);
    D.faulty("say gone;", 1, 4);
    D.faulty("hear lies;", 1, 5);
    D.faulty("rise hangs;", 1, 5);
    D.faulty("fade points points;", 1, 12);
    D.faulty("fade song;", 1, 5);
    D.faulty("fade 1<2;", 1, 6);
    D.faulty("fade [1];", 1, 5);
    D.faulty("busy;", 1, 4);
    D.faulty("busy points;", 1, 5);
  }

  static void wordsAndNumbers() {
    D.faulty("place abcdefg;", 1, 12);
    D.faulty("place abcdefghijkl;", 1, 12);
    D.faulty("place placeab;", 1, 12);
    D.faulty(AB + "way a abcdefg;", 1, 28);
    D.faulty("knows abcdefg;", 1, 12);
    D.faulty("fade abcdefg;", 1, 5);
    D.faulty("busy 00001;", 1, 9);
    D.faulty("busy 123456;", 1, 9);
    D.faulty("fade 10000;", 1, 9);
    D.faulty("fade 12345", 1, 9);
    D.faulty("busy5;", 1, 4);
    D.faulty("fade1;", 1, 4);
    D.faulty("busy12345;", 1, 4);
    D.faulty("place a1;", 1, 7);
    D.faulty("thing t weighs1;", 1, 14);
    D.faulty("thing t weighs 1;thing u weighs 1from t;", 1, 33);
    D.faulty("fade 2weighs;", 1, 6);
    D.told("fade(1)+points;say 1+2*(3);hear min(1,2)-max(3,4);rise 9999;", 4);
    D.told("thing\nt\nweighs\n1\n;thing u weighs 1 from t;", 2);
  }

  static void noSuchNumber() {
    D.faulty(AB + "way a b takes 0;", 2, 30);
    D.faulty(AB + "way a b takes 0100;", 2, 30);
    D.told(AB + "way a b takes 1;way a b takes 99;", 4);
    D.faulty("thing t weighs 0 x", 2, 15);
    D.faulty("thing t weighs 10;", 2, 15);
    D.faulty(A + "person p at a;thing t weighs 1;knows p t 100;", 2, 49);
    D.told(A + "person p at a;thing t weighs 1;knows p t 99;", 4);
    D.faulty("catch 0;", 2, 6);
    D.faulty("catch 100;", 2, 6);
    D.faulty("breaks 1000;", 2, 7);
    D.faulty("thief 100;", 2, 6);
    D.faulty("busy 101;", 2, 5);
    D.faulty("busy 101", 2, 5);
  }

  static void noSuchName() {
    D.faulty("place a;place a;", 3, 14);
    D.faulty("place a;person a", 3, 15);
    D.faulty("place a;thing a", 3, 14);
    D.faulty("place a;person p at a;place p;", 3, 28);
    D.faulty("place a;person p at a;person p at a;", 3, 29);
    D.faulty("thing t weighs 1;place t;", 3, 23);
    D.faulty("thing t weighs 1;thing t weighs 1;", 3, 23);
    D.faulty("person p at p;", 3, 12);
    D.faulty("thing t weighs 1 from t;", 3, 22);
    D.faulty("thing t weighs 1;thing u weighs 1 from u;", 3, 39);
    D.faulty("thing t weighs 1;thing u weighs 1 from t u;", 3, 41);
    D.faulty("thing t weighs 1;thing u weighs 1 from t t;", 3, 41);
    D.faulty("place a;thing u weighs 1 from a;", 3, 30);
    D.faulty("place a;way b a takes 1;", 3, 12);
    D.faulty("place a;way a a takes 1;", 3, 14);
    D.faulty("place a;way a b takes 1;", 3, 14);
    D.faulty("place a;person p at a;way a p takes 1;", 3, 28);
    D.faulty("place a;person p at a;thing t weighs 1;knows a t 1;", 3, 45);
    D.faulty("place a;person p at a;thing t weighs 1;knows p p 1;", 3, 47);
  }

  static void tooDeep() {
    D.faulty("fade (((((((1;", 4, 11);
    D.faulty("fade (((((min(1;", 1, 15);
    D.faulty("fade ((((((min(1;", 4, 14);
    D.faulty("fade ((((((min 1;", 1, 15);
    D.faulty("rise max(1,max(1,max(1,max(1,max(1,max(1,max(1,", 4, 44);
    D.told("fade ((((((1))))))+((((((1))))))*min((((((1))))),2);", 1);
    D.told("fade ((((((1))))));say ((((((1))))));", 2);
  }

  static void tooMany() {
    StringBuilder places = new StringBuilder();
    StringBuilder things = new StringBuilder();
    for (int i = 0; i < 6; i++) {
      places.append("place p").append((char) ('a' + i)).append(';');
    }
    D.told(places.toString(), 6);
    D.faulty(places + " place pa;", 5, 55);
    D.faulty(places + "place", 5, 54);
    StringBuilder people = new StringBuilder("place x;");
    for (int i = 0; i < 6; i++) {
      people.append("person m").append((char) ('a' + i)).append(" at x;");
    }
    D.told(people.toString(), 7);
    D.faulty(people + "person ", 5, people.length());
    for (int i = 0; i < 10; i++) {
      things.append("thing t").append((char) ('a' + i)).append(" weighs 1").append(i > 0 ? " from ta;" : ";");
    }
    D.told(things.toString(), 10);
    D.faulty(things + "thing 7", 5, things.length());
    D.faulty("fade 1;fade 1;", 5, 7);
    D.faulty("say 1;fade 1;hear 1;rise 1; say", 5, 28);
    D.faulty("hear 1;hear 1;", 5, 7);
    D.faulty("rise 1;rise points;", 5, 7);
    StringBuilder many = new StringBuilder();
    for (int i = 0; i < 70; i++) {
      many.append("busy ").append(i).append(";\n");
    }
    D.told(many.toString(), 70);
    D.told(many + " \n ", 70);
    D.faulty(many + " busy 1;", 5, many.length() + 1);
    D.faulty(many + ";", 5, many.length());
    D.faulty(many + "\u00e4", 5, many.length());
    D.faulty(many.substring(0, many.length() - 2), 1, many.length() - 2);
  }
}
