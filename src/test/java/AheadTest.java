/** Promises 13 to 21: what is ahead, kept, best, shovelled, routes, whose, against the thief. */
public final class AheadTest {
  static final Due D = new Due("AheadTest");

  public static void main(String[] args) {
    later();
    forgets();
    breaks();
    keep();
    keepByOthers();
    best();
    shovel();
    route();
    whose();
    against();
    lastDay();
    D.close();
  }

  static void later() {
    RisingSnow x = D.told("place a;person p at a;thing t weighs 1;thing u weighs 1 from t;knows p t 30;knows p u 99;fade points-1;", 7);
    D.due("13 later(0, 0, 0)", x.later(0, 0, 0), 30);
    D.due("13 later(0, 0, 7)", x.later(0, 0, 7), 23);
    D.due("13 later(0, 1, 29)", x.later(0, 1, 29), 70);
    D.due("13 later(0, 1, 30)", x.later(0, 1, 30), 0);
    D.due("13 later(0, 0, 40)", x.later(0, 0, 40), 0);
    D.due("13 later(0, 0, 41)", x.later(0, 0, 41), -1);
    D.due("13 later(0, 0, -1)", x.later(0, 0, -1), -1);
    D.due("13 later(1, 0, 1)", x.later(1, 0, 1), -1);
    D.due("13 later(0, 2, 1)", x.later(0, 2, 1), -1);
    D.due("13 nothing is changed", x.points(0, 0), 30);
    RisingSnow y = D.told("place a;person p at a;thing t weighs 1;knows p t 99;fade points-day*10;", 5);
    D.due("13 by days", y.later(0, 0, 4), 39);
    D.due("13 nothing is changed", x.has(3), 0);
    D.due("13 nothing is refused", x.status(3), 0);
  }

  static void forgets() {
    RisingSnow x = D.told("place a;person p at a;person q at a;thing t weighs 1;thing u weighs 1;knows p u 3;knows q t 2;knows q u 2;fade points-1;", 9);
    D.due("14 forgets(0)", x.forgets(0), 2);
    D.due("14 forgets(1)", x.forgets(1), 1);
    D.due("14 forgets(2)", x.forgets(2), 0);
    D.due("14 forgets(3)", x.forgets(3), -1);
    D.due("14 forgets(-1)", x.forgets(-1), -1);
    x.nights(2);
    D.due("14 forgets(0)", x.forgets(0), 1);
    D.due("14 forgets(1)", x.forgets(1), 0);
    D.due("14 forgets(2)", x.forgets(2), 1);
    x.nights(1);
    D.due("14 nothing", x.forgets(0), -1);
    D.due("14 nothing", x.forgets(1), -1);
    x = D.told("place a;person p at a;thing t weighs 1;knows p t 40;fade points-1;", 5);
    D.due("14 40 nights", x.forgets(0), 40);
    x = D.told("place a;person p at a;thing t weighs 1;knows p t 41;fade points-1;", 5);
    D.due("14 not 41", x.forgets(0), -1);
  }

  static void breaks() {
    String text = "place a;place b;person p at b;person q at a;thing t weighs 9;thing u weighs 9;thing v weighs 3;"
        + "knows p t 4;knows p u 6;knows p v 9;knows q t 6;knows q u 6;knows q v 9;fade points-1;rise 0;";
    RisingSnow x = D.told(text, 15);
    D.due("15 breaks(0): 21 is more than 20", x.breaks(0), 9);
    D.due("15 breaks(1): the first place", x.breaks(1), 0);
    D.due("15 breaks(2)", x.breaks(2), -1);
    D.due("15 breaks(-1)", x.breaks(-1), -1);
    x = D.told(text + "breaks 21;", 16);
    D.due("15 not more", x.breaks(0), -1);
    D.due("15 not more", x.breaks(1), -1);
    x = D.told(text + "breaks 8;", 16);
    D.due("15 breaks(0)", x.breaks(0), 4);
    D.due("15 breaks(1)", x.breaks(1), 1);
    x.nights(4);
    D.due("15 now", x.breaks(0), 0);
    D.due("15 now", x.breaks(1), 1);
    x = D.told("place a;person p at a;thing t weighs 1;knows p t 40;fade points-1;breaks 0;rise 0;", 7);
    D.due("15 40 nights", x.breaks(0), 40);
    x = D.told("place a;person p at a;thing t weighs 1;knows p t 41;fade points-1;breaks 0;rise 0;", 7);
    D.due("15 not 41", x.breaks(0), -1);
  }

  static void keep() {
    RisingSnow x = D.told("place a;person p at a;thing t weighs 1;thing u weighs 1 from t;thing v weighs 1;thing w weighs 1;"
        + "knows p t 50;knows p u 9;knows p v 3;fade points-5;say points+2+hangs*20;", 11);
    D.due("16 told nothing", x.keep(0, 0, 20, 0), 0);
    D.due("16 t stays 9 nights", x.keep(0, 1, 9, 0), 0);
    D.due("16 not 10, unless said", x.keep(0, 1, 10, 0), 1);
    D.due("16 which", x.keep(0, 1, 10, 1), 1);
    D.due("16 t is lost in 17 nights", x.keep(0, 1, 17, 1), -1);
    D.due("16 t lasts 16 nights", x.keep(0, 1, 16, 1), 1);
    D.due("16 u", x.keep(0, 2, 1, 1), 0);
    D.due("16 u", x.keep(0, 2, 2, 1), 2);
    D.due("16 u, and t for it", x.keep(0, 2, 10, 1), 3);
    D.due("16 how many", x.keep(0, 2, 10, 0), 2);
    D.due("16 u hangs on what is lost", x.keep(0, 2, 17, 0), -1);
    D.due("16 v", x.keep(0, 4, 1, 0), -1);
    D.due("16 w is not known", x.keep(0, 8, 1, 0), -1);
    D.due("16 no such thing", x.keep(0, 16, 1, 0), -1);
    D.due("16 no such thing", x.keep(0, -1, 1, 0), -1);
    D.due("16 no such thing", x.keep(0, Integer.MIN_VALUE, 1, 0), -1);
    D.due("16 no such one", x.keep(1, 1, 1, 0), -1);
    D.due("16 no such one", x.keep(-1, 1, 1, 0), -1);
    D.due("16 n 0", x.keep(0, 1, 0, 0), -1);
    D.due("16 n 21", x.keep(0, 0, 21, 0), -1);
    D.due("16 what 2", x.keep(0, 1, 1, 2), -1);
    D.due("16 what -1", x.keep(0, 1, 1, -1), -1);
    D.due("16 nothing is changed", x.points(0, 0), 50);
    D.due("16 nothing is changed", x.has(8), 0);
    x = D.told("place a;person p at a;thing t weighs 1;knows p t 50;fade points-day*50;say points+2;", 6);
    D.due("16 by days: 52, 4 are left", x.keep(0, 1, 2, 1), 1);
    D.due("16 by days", x.keep(0, 1, 1, 1), 0);
    D.due("16 by days", x.keep(0, 1, 3, 1), -1);
  }

  /** q, who hears it, keeps t known by two, which p needs to keep u: saying t or u does it. */
  static void keepByOthers() {
    RisingSnow x = D.told("place a;person p at a;person q at a;thing t weighs 1;thing u weighs 1 from t;"
        + "knows p t 99;knows p u 99;knows q t 2;knows q u 99;fade points-2+min(know-2,0)*40+hangs*2;hear points+5;", 11);
    D.due("16 three nights without", x.keep(0, 2, 3, 1), 0);
    D.due("16 four nights: t, so that q keeps u", x.keep(0, 2, 4, 1), 1);
    D.due("16 how many", x.keep(0, 2, 4, 0), 1);
    // q keeps b, c, d only while p says r; b, c fade if one alone knows them, d if two do
    x = D.told("place a;person p at a;person q at a;thing r weighs 3;thing b weighs 1 from r;thing c weighs 1 from r;thing d weighs 2 from r;"
        + "knows p r 99;knows p b 99;knows p c 99;knows p d 99;knows q r 2;knows q b 99;knows q c 99;knows q d 99;hear points+9;"
        + "fade points-max(0,2-know)*max(0,2-weighs)*30-max(0,know-1)*min(max(0,weighs-1),max(0,3-weighs))*30-max(0,weighs-2);", 17);
    D.due("16 b and c, or r and d: the least bits", x.keep(0, 14, 6, 1), 6);
    D.due("16 how many", x.keep(0, 14, 6, 0), 2);
    D.due("16 b and c, or r alone: the fewest", x.keep(0, 6, 6, 1), 1);
    D.due("16 d without any", x.keep(0, 8, 6, 1), 0);
    D.due("16 b, or r: the least bits", x.keep(0, 2, 6, 1), 1);
    x = D.told("place a;person p at a;person q at a;thing r weighs 3;thing b weighs 1 from r;thing c weighs 1 from r;thing e weighs 1 from r;"
        + "thing d weighs 2 from r;knows p r 99;knows p b 99;knows p c 99;knows p e 99;knows p d 99;"
        + "knows q r 2;knows q b 99;knows q c 99;knows q e 99;knows q d 99;hear points+9;"
        + "fade points-max(0,2-know)*max(0,2-weighs)*30-max(0,know-1)*min(max(0,weighs-1),max(0,3-weighs))*30-max(0,weighs-2);", 20);
    D.due("16 b, c, e, or r and d: the fewest, though not the least bits", x.keep(0, 30, 6, 1), 17);
  }

  static void best() {
    RisingSnow x = D.told("place a;person p at a;thing t weighs 1;thing u weighs 1;thing v weighs 1 from u;thing w weighs 1;"
        + "knows p t 1;knows p u 1;knows p v 50;fade points-1;", 10);
    D.due("17 best(0, 1, 0)", x.best(0, 1, 0), 1);
    D.due("17 best(0, 1, 1)", x.best(0, 1, 1), 2);
    D.due("17 best(0, 40, 0)", x.best(0, 40, 0), 1);
    x.nights(1);
    D.due("17 none is known", x.best(0, 1, 0), -1);
    D.due("17 none is known", x.best(0, 1, 1), -1);
    x = D.told("place a;person p at a;thing t weighs 1;thing u weighs 1;knows p t 1;knows p u 1;fade points-1;", 7);
    D.due("17 of like ones the first", x.best(0, 1, 0), 0);
    D.due("17 n 0", x.best(0, 0, 0), -1);
    D.due("17 n 41", x.best(0, 41, 0), -1);
    D.due("17 n -1", x.best(0, -1, 0), -1);
    D.due("17 no such", x.best(1, 1, 0), -1);
    D.due("17 no such", x.best(-1, 1, 0), -1);
    D.due("17 what 2", x.best(0, 1, 2), -1);
    D.due("17 what -1", x.best(0, 1, -1), -1);
    x = D.told("place a;person p at a;thing t weighs 1;thing u weighs 1;knows p t 30;knows p u 60;fade points-day*50;say points+30;", 8);
    D.due("17 by days", x.best(0, 2, 0), 0);
    D.due("17 by days", x.best(0, 2, 1), 2);
    D.due("17 by days", x.best(0, 3, 1), 0);
    x = D.told("place a;person p at a;thing t weighs 1;knows p t 1;fade 0;", 5);
    D.due("17 known now, but then none", x.best(0, 1, 0), 0);
    D.due("17 known now, but then none", x.best(0, 1, 1), 0);
  }

  static void shovel() {
    RisingSnow x = D.told("place a;place b;place c;person p at a;person q at b;person r at c;thing t weighs 5;thing u weighs 9;"
        + "knows p t 1;knows q u 1;knows r t 1;fade 0;rise weighs/4;", 13);
    // in two nights each t goes from 5 to 3, u from 9 to 5
    D.due("18 none held", x.shovel(2, 0, 0), 0);
    D.due("18 none held", x.shovel(2, 0, 1), 11);
    D.due("18 one held", x.shovel(2, 1, 0), 2);
    D.due("18 one held", x.shovel(2, 1, 1), 15);
    D.due("18 two held, the least bits", x.shovel(2, 2, 0), 3);
    D.due("18 two held", x.shovel(2, 2, 1), 17);
    D.due("18 all held", x.shovel(2, 3, 0), 7);
    D.due("18 all held", x.shovel(40, 3, 1), 19);
    D.due("18 too many", x.shovel(2, 4, 0), -1);
    D.due("18 below 0", x.shovel(2, -1, 0), -1);
    D.due("18 n 0", x.shovel(0, 1, 0), -1);
    D.due("18 n 41", x.shovel(41, 1, 0), -1);
    D.due("18 what 2", x.shovel(1, 1, 2), -1);
    D.due("18 what -1", x.shovel(1, 1, -1), -1);
    D.due("18 nothing is changed", x.has(5), 0);
  }

  static void route() {
    RisingSnow x = D.told("place a;place b;place c;place d;place e;way a b takes 5;way b c takes 5;way a c takes 10;way c d takes 1;"
        + "person p at b;thing t weighs 1;thing u weighs 2;knows p t 1;knows p u 1;fade 0;rise 0;", 16);
    D.due("19 by b, the first", x.route(0, 3, 0), 1);
    D.due("19 then c", x.route(0, 3, 1), 2);
    D.due("19 then d", x.route(0, 3, 2), 3);
    D.due("19 no more", x.route(0, 3, 3), -1);
    D.due("19 takes", x.route(0, 3, -1), 11);
    D.due("19 back", x.route(3, 0, -1), 11);
    D.due("19 back by a", x.route(3, 0, 1), 0);
    D.due("19 to where one is", x.route(2, 2, -1), 0);
    D.due("19 to where one is", x.route(2, 2, 0), -1);
    D.due("19 none", x.route(0, 4, -1), -1);
    D.due("19 none", x.route(4, 0, 0), -1);
    D.due("19 no such", x.route(0, 5, -1), -1);
    D.due("19 no such", x.route(-1, 0, -1), -1);
    D.due("19 k -2", x.route(0, 3, -2), -1);
    D.due("19 k max", x.route(0, 3, Integer.MAX_VALUE), -1);
    x.nights(1);
    D.due("19 around the snow", x.route(0, 3, 0), 2);
    D.due("19 takes as before", x.route(0, 3, -1), 11);
    D.due("19 into the snow", x.route(0, 1, -1), 8);
    D.due("19 out of the snow", x.route(1, 0, -1), 5);
    D.due("19 within the snow", x.route(1, 1, -1), 0);
  }

  static int whose(RisingSnow x, int... row) {
    Due.feed(x, Due.bytes(row));
    return x.whose();
  }

  static void whose() {
    RisingSnow x = D.told("place a;person p at a;person q at a;person r at a;thing t weighs 1;thing u weighs 1;thing v weighs 1;"
        + "knows p t 1;knows q t 1;knows q u 1;knows r u 1;fade 0;", 12);
    D.due("20 none yet", whose(x, 0), 0);
    x.nights(1);
    D.due("20 t", whose(x, 0), 3);
    D.due("20 u", whose(x, 1), 6);
    D.due("20 t u", whose(x, 0, 1), 2);
    D.due("20 v", whose(x, 2), 0);
    D.due("20 t v", whose(x, 0, 2), 0);
    D.due("20 ten", whose(x, 0, 0, 0, 0, 0, 1, 1, 1, 1, 1), 2);
    D.due("20 eleven", whose(x, 0, 0, 0, 0, 0, 1, 1, 1, 1, 1, 1), -1);
    D.due("20 none", whose(x), -1);
    D.due("20 no such", whose(x, 3), -1);
    D.due("20 no such behind", whose(x, 0, 255), -1);
    D.due("33 status(1)", x.status(1), 4);
    D.due("20 the tape goes", x.feed(0, 0, 0, 0, 0), 20);
    D.due("5 of the latest valley() or ask()", x.fault(0), 0);
  }

  static void against() {
    String text = "place a;person p at a;thing t weighs 1;thing u weighs 1 from t;";
    RisingSnow x = D.told(text + "knows p t 15;knows p u 15;fade points-5;say points+9;", 8);
    // the thief takes 10 (without thief): 15 - 10 - 5 is none, so it takes t or u, whichever is not said
    D.due("21 now", x.against(0, 1, 0), 1);
    D.due("21 t can be said", x.against(0, 0, 1), 1);
    D.due("21 u hangs on t", x.against(0, 1, 1), 0);
    D.due("21 t: 15 + 9 - 10 - 5 = 9, then 3", x.against(0, 0, 2), 1);
    D.due("21 n 3", x.against(0, 0, 3), -1);
    D.due("21 n -1", x.against(0, 0, -1), -1);
    D.due("21 no such", x.against(1, 0, 0), -1);
    D.due("21 no such", x.against(0, 2, 0), -1);
    D.due("21 no such", x.against(-1, 0, 0), -1);
    D.due("21 nothing is changed", x.points(0, 0), 15);
    x = D.told(text + "knows p t 12;knows p u 15;fade points-5;say points+9;", 8);
    D.due("21 t: 12 + 9 - 15 = 6, then 0", x.against(0, 0, 2), 0);
    x = D.told(text + "knows p t 5;fade points-5;say points;thief 0;", 8);
    D.due("21 the night is enough", x.against(0, 0, 1), 0);
    D.due("21 not known", x.against(0, 1, 0), 0);
    D.due("21 not known", x.against(0, 1, 2), 0);
    x = D.told(text + "knows p t 99;knows p u 99;thief 99;", 7);
    D.due("21 what is taken whole", x.against(0, 0, 1), 0);
    x = D.told(text + "knows p t 99;knows p u 98;thief 98;", 7);
    D.due("21 u said first", x.against(0, 1, 1), 1);
    D.due("21 then t has 1", x.against(0, 1, 2), 1);
    x = D.told(text + "knows p t 60;fade points-day*50;say points;thief 0;", 8);
    D.due("21 the second day takes 50", x.against(0, 0, 2), 1);
    x = D.told(text + "knows p t 50;fade points-day*50;say points;thief 0;", 8);
    D.due("21 the second day takes 50", x.against(0, 0, 2), 0);
    x = D.told(text + "knows p u 50;", 5);
    D.due("21 hangs on what he does not know", x.against(0, 1, 0), 1);
    D.due("21 hangs on what he does not know", x.against(0, 1, 1), 0);
    x = D.told("place a;person p at a;thing t weighs 1;knows p t 50;fade 50-points;thief 20;", 6);
    D.due("21 the thief must take: 50 - 30 is left", x.against(0, 0, 1), 1);
    x = D.told("place a;person p at a;thing t weighs 1;thing u weighs 1;knows p t 50;fade 50-points;say 50;thief 20;", 8);
    D.due("21 the thief takes from another", x.against(0, 0, 1), 0);
  }

  static void lastDay() {
    RisingSnow x = D.told("place a;person p at a;thing t weighs 9;knows p t 1;fade points-1;rise 0;breaks 8;", 7);
    NatureTest.image(x, 9997, 0, 3, 0, 0, 0);
    D.due("13 two nights ahead", x.later(0, 0, 2), 1);
    D.due("13 not three", x.later(0, 0, 3), -1);
    D.due("14 not three", x.forgets(0), -1);
    D.due("15 not three", x.breaks(0), -1);
    D.due("16 two nights", x.keep(0, 1, 2, 0), 0);
    D.due("16 not three", x.keep(0, 1, 3, 0), -1);
    D.due("17 two nights", x.best(0, 2, 0), 0);
    D.due("17 not three", x.best(0, 3, 0), -1);
    D.due("18 two nights", x.shovel(2, 1, 0), 1);
    D.due("18 not three", x.shovel(3, 1, 0), -1);
    D.due("21 two days", x.against(0, 0, 2), 1);
    x.nights(1);
    D.due("14 one night", x.forgets(0), -1);
    D.due("21 not two days", x.against(0, 0, 2), -1);
    D.due("21 one day", x.against(0, 0, 1), 1);
    x.nights(1);
    D.due("6 has(3)", x.has(3), 9999);
    D.due("13 now", x.later(0, 0, 0), 1);
    D.due("13 no night", x.later(0, 0, 1), -1);
    D.due("21 now", x.against(0, 0, 0), 1);
    D.due("21 no day", x.against(0, 0, 1), -1);
    NatureTest.image(x, 9998, 0, 1, 0, 0, 0);
    D.due("14 the last night", x.forgets(0), 1);
    D.due("15 the last night", x.breaks(0), 1);
  }
}
