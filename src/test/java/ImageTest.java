/** Promises 30 (image), 31 (octet), 32 (on). */
public final class ImageTest {
  static final Due D = new Due("ImageTest");
  static final String TEXT = "place a;place b;person p at b;person q at a;thing t weighs 2;thing u weighs 9;knows p t 99;knows p u 1;knows q u 2;"
      + "fade points-1;rise 1;way a b takes 1;";
  // after a night: day 1; p in b, t 98, u 0; q in a, t 0, u 1; of t none; u lost by p, 1 gone, 8 in b
  static final int[] BYTES = {0, 1, 1, 98, 0, 0, 0, 1, 0, 0, 0, 0, 0, 0, 0, 1, 0, 1, 0, 0, 0, 8, 0};

  public static void main(String[] args) {
    written();
    read();
    refused();
    withoutThings();
    large();
    D.close();
  }

  static int[] checked(int... bytes) {
    int[] b = bytes.clone();
    int c = 211;
    for (int i = 0; i < b.length - 1; i++) {
      c = (3 * c + b[i]) % 251;
    }
    b[b.length - 1] = c;
    return b;
  }

  static boolean on(RisingSnow x, int... bytes) {
    Due.feed(x, Due.bytes(bytes));
    return x.on();
  }

  static void same(RisingSnow x, int... bytes) {
    D.due("30 image()", x.image(), bytes.length);
    for (int k = 0; k < bytes.length; k++) {
      D.due("31 octet(" + k + ")", x.octet(k), bytes[k]);
    }
    D.due("31 octet behind", x.octet(bytes.length), -1);
    D.due("31 octet(-1)", x.octet(-1), -1);
  }

  static void written() {
    RisingSnow x = D.told(TEXT, 12);
    D.due("31 ahead of any image()", x.octet(0), -1);
    x.nights(1);
    int[] due = checked(BYTES);
    same(x, due);
    x.nights(1);
    D.due("31 of the latest image()", x.octet(1), 1);
    D.due("30 image()", x.image(), BYTES.length);
    D.due("31 octet(1)", x.octet(1), 2);
    Due.feed(x, "place a;");
    x.valley();
    D.due("31 of the latest image()", x.octet(1), 2);
    same(x, checked(0, 0, 0));
    D.due("31 octet(3)", x.octet(3), -1);
  }

  static void read() {
    RisingSnow x = D.told(TEXT, 12);
    x.seed(5);
    x.nights(3);
    D.due("32 on()", on(x, checked(BYTES)), true);
    D.due("32 nothing can be undone", x.has(8), 0);
    D.due("32 nothing can be undone", x.undo(), false);
    D.due("32 day", x.has(3), 1);
    D.due("32 points", x.points(0, 0), 98);
    D.due("32 points", x.points(1, 1), 1);
    D.due("32 lies", x.lies(1, 1), 8);
    D.due("32 gone", x.thing(1, 3), 1);
    D.due("32 lost", x.thing(1, 4), 1);
    D.due("32 lost", x.thing(0, 4), 0);
    D.due("32 place", x.person(0, 0), 1);
    same(x, checked(BYTES));
    int[] most = checked(39, 15, 1, 99, 99, 1, 99, 99, 3, 39, 15, 3, 231, 3, 231, 3, 39, 15, 3, 231, 3, 231, 0);
    D.due("32 the most", on(x, most), true);
    same(x, most);
    D.due("32 the tape goes", x.feed(0, 0, 0, 0, 0), 20);
    D.due("33 status(5)", x.status(5), 0);
  }

  static void refusedWith(RisingSnow x, int k, int value) {
    int[] b = BYTES.clone();
    b[k] = value;
    D.due("32 byte " + k + " " + value, on(x, checked(b)), false);
    D.due("32 the tape goes", x.end(1), false);
  }

  static void refused() {
    RisingSnow x = D.told(TEXT, 12);
    x.nights(2);
    D.due("32 an empty tape", on(x), false);
    D.due("32 too short", on(x, checked(java.util.Arrays.copyOf(BYTES, BYTES.length - 1))), false);
    D.due("32 too long", on(x, checked(java.util.Arrays.copyOf(BYTES, BYTES.length + 1))), false);
    int[] wrong = checked(BYTES);
    wrong[BYTES.length - 1] ^= 1;
    D.due("32 the last byte", on(x, wrong), false);
    wrong = checked(BYTES);
    wrong[3]--;
    D.due("32 another byte", on(x, wrong), false);
    D.due("33 status(5)", x.status(5), 5);
    refusedWith(x, 0, 40);
    refusedWith(x, 2, 2);
    refusedWith(x, 3, 100);
    refusedWith(x, 7, 100);
    refusedWith(x, 7, 255);
    refusedWith(x, 15, 4);
    refusedWith(x, 8, 255);
    refusedWith(x, 16, 40);
    refusedWith(x, 18, 4);
    refusedWith(x, 20, 255);
    int[] b = BYTES.clone();
    b[0] = 39;
    b[1] = 16;
    D.due("32 day 10000", on(x, checked(b)), false);
    b = BYTES.clone();
    b[20] = 3;
    b[21] = 232;
    D.due("32 lying 1000", on(x, checked(b)), false);
    b = BYTES.clone();
    b[16] = 39;
    b[17] = 16;
    D.due("32 gone 10000", on(x, checked(b)), false);
    D.due("33 status(5)", x.status(5), 18);
    D.due("32 all stays", x.has(3), 2);
    D.due("32 all stays", x.has(8), 1);
    D.due("32 all stays", x.points(0, 0), 97);
    D.due("32 all stays", x.undo(), true);
  }

  /** People, but no things; the last byte is above all that the others may be. */
  static void withoutThings() {
    RisingSnow x = D.told("place a;place b;person p at a;person q at b;", 4);
    for (int day = 0; day < 9999; day += 111) {
      int[] b = checked(day >> 8, day & 255, 1, 0, 0);
      D.due("32 day " + day, on(x, b), true);
      same(x, b);
    }
    D.due("32 no such place", on(x, checked(0, 0, 1, 2, 0)), false);
  }

  static void large() {
    StringBuilder b = new StringBuilder();
    for (int i = 0; i < 6; i++) {
      b.append("place p").append((char) ('a' + i)).append(";person m").append((char) ('a' + i)).append(" at pa;");
    }
    for (int i = 0; i < 10; i++) {
      b.append("thing t").append((char) ('a' + i)).append(" weighs 1;");
    }
    RisingSnow x = D.told(b.toString(), 22);
    D.due("30 the largest image", x.image(), 219);
    int[] bytes = new int[219];
    for (int k = 0; k < 219; k++) {
      bytes[k] = x.octet(k);
    }
    D.due("31 octet(219)", x.octet(219), -1);
    D.due("32 on()", on(x, bytes), true);
    bytes[68] = 63;
    D.due("32 lost by all", on(x, checked(bytes)), true);
    D.due("8 thing(0, 4)", x.thing(0, 4), 63);
    bytes[68] = 64;
    D.due("32 lost by one who is not", on(x, checked(bytes)), false);
  }
}
