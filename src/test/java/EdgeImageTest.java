import java.io.IOException;

/** The edges of images, in part IV of the document and promises 30 to 32: a test for each sentence that names one. */
public final class EdgeImageTest {
  static final String TWO = "place a;place b;person p at a;person q at b;thing t weighs 1;thing u weighs 1;";
  static Due d;

  public static void main(String[] args) throws IOException {
    d = new Due("EdgeImageTest", args);
    layout();
    lastByte();
    size();
    octets();
    mostOfEach();
    placesAndPeople();
    otherTexts();
    turnedOn();
    d.close();
  }

  static int[] octetsOf(RisingSnow x, int size) {
    d.due("image()", x.image(), size);
    int[] b = new int[size];
    for (int k = 0; k < size; k++) {
      b[k] = x.octet(k);
    }
    d.due("octet behind", x.octet(size), -1);
    return b;
  }

  static boolean on(RisingSnow x, String image) {
    Due.feed(x, image);
    return x.on();
  }

  static String withLast(String ahead) {
    return ahead + Due.bytes(Due.lastByte(ahead));
  }

  static void layout() {
    d.says("DAY (two bytes, the higher first); for each of the PEOPLE his PLACE, his points of each THING; "
        + "for each THING who LOST it (bits), how much is GONE (two bytes), how much lies in each PLACE (two bytes)");
    RisingSnow x = d.told(TWO);
    int[] due = {0x27, 0x0f, 1, 99, 1, 0, 0, 98, 3, 0x27, 0x0e, 3, 0xe7, 0, 255, 2, 0, 255, 1, 0, 1, 1};
    d.due("on()", on(x, withLast(Due.bytes(due))), true);
    d.due("DAY", x.has(3), 9999);
    d.due("person(0, 0)", x.person(0, 0), 1);
    d.due("points(0, 0)", x.points(0, 0), 99);
    d.due("points(0, 1)", x.points(0, 1), 1);
    d.due("person(1, 0)", x.person(1, 0), 0);
    d.due("points(1, 0)", x.points(1, 0), 0);
    d.due("points(1, 1)", x.points(1, 1), 98);
    d.due("thing(0, 4)", x.thing(0, 4), 3);
    d.due("thing(0, 3)", x.thing(0, 3), 9998);
    d.due("lies(0, 0)", x.lies(0, 0), 999);
    d.due("lies(1, 0)", x.lies(1, 0), 255);
    d.due("thing(1, 4)", x.thing(1, 4), 2);
    d.due("thing(1, 3)", x.thing(1, 3), 255);
    d.due("lies(0, 1)", x.lies(0, 1), 256);
    d.due("lies(1, 1)", x.lies(1, 1), 257);
    int[] got = octetsOf(x, 23);
    for (int k = 0; k < due.length; k++) {
      d.due("octet(" + k + ")", got[k], due[k]);
    }
    for (int day : new int[] {0, 1, 255, 256, 257, 9998, 9999}) {
      x = d.told("");
      d.due("on()", on(x, Due.image(day, new int[][] {}, new int[][] {})), true);
      d.due("has(3)", x.has(3), day);
      got = octetsOf(x, 3);
      d.due("the higher", got[0], day / 256);
      d.due("the lower", got[1], day % 256);
    }
  }

  static void lastByte() {
    d.says("last a byte: all ahead from 211 on, c = (3 c + it) mod 251");
    RisingSnow x = new RisingSnow();
    // 3 * 211 is 633, 131 mod 251; 3 * 131 is 393, 142; with DAY 1: 143
    d.due("of DAY 0", octetsOf(x, 3)[2], 142);
    x.nights(1);
    d.due("of DAY 1", octetsOf(x, 3)[2], 143);
    x.nights(100);
    x.nights(8);
    d.due("of DAY 109: 142 + 109 is 251, 0", octetsOf(x, 3)[2], 0);
    x.undo();
    x.nights(7);
    d.due("of DAY 108", octetsOf(x, 3)[2], 250);
    for (int day : new int[] {0, 1, 108, 109, 110, 113, 9999}) {
      for (int wrong : new int[] {-1, 1, 251, -251, 5, 128}) {
        String image = Due.image(day, new int[][] {}, new int[][] {});
        int last = image.charAt(2) + wrong;
        if (last >= 0 && last <= 255) {
          x = new RisingSnow();
          d.due("DAY " + day + " with " + last, on(x, image.substring(0, 2) + (char) last), false);
          d.due("has(3)", x.has(3), 0);
          d.due("with the due one", on(x, image), true);
          d.due("has(3)", x.has(3), day);
          d.due("status(5)", x.status(5), 1);
        }
      }
    }
  }

  static void size() {
    d.says("AN IMAGE is written: how many bytes.");
    d.due("of nothing", new RisingSnow().image(), 3);
    d.due("of places", d.told("place a;place b;").image(), 3);
    d.due("of people", d.told("place a;place b;person p at a;person q at a;").image(), 5);
    d.due("of things", d.told("thing t weighs 1;thing u weighs 1;").image(), 9);
    d.due("of places and things", d.told("place a;place b;thing t weighs 1;").image(), 10);
    d.due("of two each", d.told(TWO).image(), 23);
    d.due("of the most", largest().image(), 219);
  }

  static RisingSnow largest() {
    StringBuilder b = new StringBuilder();
    for (int i = 0; i < 6; i++) {
      b.append("place p").append((char) ('a' + i)).append(";person m").append((char) ('a' + i)).append(" at pa;");
    }
    for (int i = 0; i < 10; i++) {
      b.append("thing t").append((char) ('a' + i)).append(" weighs 1;");
    }
    return d.told(b.toString());
  }

  static void octets() {
    d.says("Byte k of the latest image(); NONE when there is none such.");
    RisingSnow x = d.told(TWO);
    for (int k : new int[] {-1, 0, 1, 22, Integer.MAX_VALUE, Integer.MIN_VALUE}) {
      d.due("ahead of any", x.octet(k), -1);
    }
    d.due("image()", x.image(), 23);
    d.due("the first", x.octet(0), 0);
    d.due("the last", x.octet(22) >= 0, true);
    for (int k : new int[] {-1, 23, 219, Integer.MAX_VALUE, Integer.MIN_VALUE}) {
      d.due("octet(" + k + ")", x.octet(k), -1);
    }
    x.nights(5);
    d.due("as it was then", x.octet(1), 0);
    d.due("image()", x.image(), 23);
    d.due("of the latest", x.octet(1), 5);
    x.undo();
    d.due("behind undo()", x.octet(1), 5);
    Due.feed(x, "place a;");
    d.due("valley()", x.valley(), 1);
    d.due("behind valley()", x.octet(1), 5);
    d.due("behind valley()", x.octet(21), 0);
    d.due("image()", x.image(), 3);
    d.due("a smaller one", x.octet(3), -1);
    d.due("a smaller one", x.octet(1), 0);
    x = largest();
    x.image();
    d.due("the 219th", x.octet(218) >= 0, true);
    d.due("no 220th", x.octet(219), -1);
  }

  /** An image of the valley TWO in which two neighbours of it are put. */
  static String changed(int at, int value, int bytes) {
    StringBuilder b = new StringBuilder(Due.image(5, new int[][] {{0, 5, 5}, {1, 5, 5}}, new int[][] {{1, 5, 5, 5}, {2, 5, 5, 5}}));
    b.setLength(b.length() - 1);
    if (bytes == 2) {
      b.setCharAt(at, (char) (value >> 8));
      b.setCharAt(at + 1, (char) (value & 255));
    } else {
      b.setCharAt(at, (char) value);
    }
    return withLast(b.toString());
  }

  static void most(String name, int at, int bytes, int most) {
    for (int value : new int[] {0, most, most + 1, bytes == 2 ? 65535 : 255}) {
      RisingSnow x = d.told(TWO);
      d.due("on() with " + name + " " + value, on(x, changed(at, value, bytes)), value <= most);
      d.due("the tape goes", x.end(1), false);
      d.due("status(5)", x.status(5), value <= most ? 0 : 1);
      d.due("has(3)", x.has(3), value > most ? 0 : at == 0 ? value : 5);
      if (value <= most) {
        String image = changed(at, value, bytes);
        int[] got = octetsOf(x, 23);
        for (int k = 0; k < 23; k++) {
          d.due("octet(" + k + ")", got[k], image.charAt(k));
        }
      }
    }
  }

  static void mostOfEach() {
    d.says("(DAYS, GONE 9999, points 99, lying 999 at most;");
    most("DAY", 0, 2, 9999);
    most("points of p, t", 3, 1, 99);
    most("points of p, u", 4, 1, 99);
    most("points of q, t", 6, 1, 99);
    most("points of q, u", 7, 1, 99);
    most("gone of t", 9, 2, 9999);
    most("lies in a of t", 11, 2, 999);
    most("lies in b of t", 13, 2, 999);
    most("gone of u", 16, 2, 9999);
    most("lies in a of u", 18, 2, 999);
    most("lies in b of u", 20, 2, 999);
  }

  static void placesAndPeople() {
    d.says("PLACES, PEOPLE that there are), all staying");
    most("place of p", 2, 1, 1);
    most("place of q", 5, 1, 1);
    most("who lost t", 8, 1, 3);
    most("who lost u", 15, 1, 3);
    RisingSnow x = d.told("thing t weighs 1;");
    d.due("lost by nobody", on(x, withLast(Due.bytes(0, 0, 0, 0, 0))), true);
    d.due("lost by one where nobody is", on(x, withLast(Due.bytes(0, 0, 1, 0, 0))), false);
    x = largest();
    x.image();
    StringBuilder b = new StringBuilder();
    for (int k = 0; k < 218; k++) {
      b.append((char) x.octet(k));
    }
    b.setCharAt(2, (char) 5);
    b.setCharAt(68, (char) 63);
    d.due("the sixth place, lost by six", on(x, withLast(b.toString())), true);
    d.due("person(0, 0)", x.person(0, 0), 5);
    d.due("thing(0, 4)", x.thing(0, 4), 63);
    b.setCharAt(2, (char) 6);
    d.due("a seventh place", on(x, withLast(b.toString())), false);
    b.setCharAt(2, (char) 5);
    b.setCharAt(68, (char) 64);
    d.due("lost by a seventh", on(x, withLast(b.toString())), false);
    d.due("status(5)", x.status(5), 2);
    d.due("all stays", x.thing(0, 4), 63);
  }

  static void otherTexts() {
    d.says("The tape (it goes) is AN IMAGE of this VALLEY");
    RisingSnow x = d.told(TWO);
    String image = changed(0, 5, 2);
    d.due("an empty tape", on(x, ""), false);
    d.due("the last byte alone", on(x, Due.bytes(211)), false);
    d.due("one byte less", on(x, image.substring(0, 22)), false);
    d.due("one byte less, with its last byte", on(x, withLast(image.substring(0, 21))), false);
    d.due("one byte more", on(x, image + Due.bytes(0)), false);
    d.due("one byte more, with its last byte", on(x, withLast(image)), false);
    d.due("one byte more ahead", on(x, Due.bytes(0) + image), false);
    d.due("of another valley", on(x, Due.image(0, new int[][] {}, new int[][] {})), false);
    d.due("a tape of 1600", on(x, image + " ".repeat(1577)), false);
    d.due("the tape goes", x.feed(0, 0, 0, 0, 0), 20);
    x.end(0);
    d.due("status(5)", x.status(5), 9);
    d.due("has(3)", x.has(3), 0);
    d.due("the image itself", on(x, image), true);
    d.due("the tape goes", x.feed(0, 0, 0, 0, 0), 20);
    d.due("has(3)", x.has(3), 5);
    d.due("status(5)", x.status(5), 9);
  }

  static void turnedOn() {
    d.says("true, all is as it tells, nothing can be undone");
    RisingSnow x = d.told(TWO + "knows p t 5;fade points;busy 50;");
    x.nights(1);
    x.days(1);
    d.due("has(8)", x.has(8), 2);
    d.due("on()", on(x, changed(0, 77, 2)), true);
    d.due("has(8)", x.has(8), 0);
    d.due("undo()", x.undo(), false);
    d.due("has(3)", x.has(3), 77);
    d.due("has(5)", x.has(5), 20);
    d.due("has(6)", x.has(6), 10);
    d.due("has(4)", x.has(4), 4);
    d.due("the valley stays", x.has(0) + 10 * x.has(1) + 100 * x.has(2), 222);
    d.due("no image is written by it", x.octet(0), -1);
    d.due("image()", x.image(), 23);
    d.due("on()", on(x, changed(0, 78, 2)), true);
    d.due("octet() is of the latest image()", x.octet(1), 77);
    d.due("on()", on(x, changed(0, 77, 2)), true);
    d.due("an act behind it", x.nights(1), 0);
    d.due("can be undone", x.undo(), true);
    d.due("has(3)", x.has(3), 77);
    d.due("once", x.undo(), false);
    // the first DRAW of 100 by the seed 0 is 92, by 1 18, by 2147483647 99: AN IMAGE does not tell it
    String day = "place a;person p at a;thing t weighs 1;busy ";
    int[][] draws = {{0, 92}, {1, 18}, {2147483647, 99}};
    for (int[] draw : draws) {
      for (int more = 0; more <= 1; more++) {
        x = d.told(day + (draw[1] + more) + ";");
        d.due("seed(" + draw[0] + ")", x.seed(draw[0]), true);
        d.due("on()", on(x, Due.image(0, new int[][] {{0, 50}}, new int[][] {{0, 0, 0}})), true);
        d.due("days(1)", x.days(1), 0);
        d.due("the seed stays", x.points(0, 0), more == 1 ? 99 : 50);
      }
    }
  }
}
