import java.util.ArrayList;
import java.util.Arrays;
import java.util.HashMap;
import java.util.List;
import java.util.Map;

/**
 * The document once more, as plainly as it can be told and without care for speed: every answer is
 * found by going through all that could be. RandomTest holds RisingSnow against it.
 */
final class Model {
  static final String[] OWN = ("place way takes person at thing weighs from knows fade say hear rise catch breaks thief"
      + " busy know day points hangs lies number gone or and not all min max").split(" ");

  static final class Fault extends RuntimeException {
    private static final long serialVersionUID = 1L;
    final int kind;
    final int at;

    Fault(int kind, int at) {
      super(null, null, false, false);
      this.kind = kind;
      this.at = at;
    }
  }

  /** A SUM or TEST, worked out for one THING. */
  interface Term {
    long of(Map<String, Long> words);
  }

  static final class World {
    final List<String> places = new ArrayList<>();
    final List<String> people = new ArrayList<>();
    final List<String> things = new ArrayList<>();
    final Map<String, Integer> ways = new HashMap<>();
    final List<Integer> homes = new ArrayList<>();
    final List<Integer> weighs = new ArrayList<>();
    final List<List<Integer>> hangs = new ArrayList<>();
    final Map<String, Integer> knows = new HashMap<>();
    final Map<String, Term> sums = new HashMap<>();
    final Map<String, Integer> set = new HashMap<>(Map.of("catch", 30, "breaks", 20, "thief", 10, "busy", 0));
    int statements;
  }

  static final class State {
    int day;
    int[] at;
    int[][] points;
    int[][] lies;
    int[] gone;
    boolean[][] lost;

    State(World w) {
      at = new int[w.people.size()];
      points = new int[w.people.size()][w.things.size()];
      lies = new int[w.places.size()][w.things.size()];
      gone = new int[w.things.size()];
      lost = new boolean[w.things.size()][w.people.size()];
      for (int p = 0; p < at.length; p++) {
        at[p] = w.homes.get(p);
        for (int t = 0; t < gone.length; t++) {
          points[p][t] = w.knows.getOrDefault(p + " " + t, 0);
        }
      }
    }

    State(State s) {
      day = s.day;
      at = s.at.clone();
      gone = s.gone.clone();
      points = Arrays.stream(s.points).map(int[]::clone).toArray(int[][]::new);
      lies = Arrays.stream(s.lies).map(int[]::clone).toArray(int[][]::new);
      lost = Arrays.stream(s.lost).map(boolean[]::clone).toArray(boolean[][]::new);
    }
  }

  // ---- reading

  String text;
  int pos;
  int open;

  void blanks() {
    while (pos < text.length() && (text.charAt(pos) == ' ' || text.charAt(pos) == '\n')) {
      pos++;
    }
  }

  static boolean letter(char c) {
    return "abcdefghijklmnopqrstuvwxyz".indexOf(c) >= 0;
  }

  static boolean digit(char c) {
    return "0123456789".indexOf(c) >= 0;
  }

  /** The word that begins here, whole; empty if none does, or it is stuck to a number. */
  String word() {
    blanks();
    int end = pos;
    if (pos > 0 && digit(text.charAt(pos - 1))) {
      return "";
    }
    while (end < text.length() && letter(text.charAt(end))) {
      end++;
    }
    return text.substring(pos, end);
  }

  boolean isWord(String w) {
    if (!word().equals(w)) {
      return false;
    }
    pos += w.length();
    return true;
  }

  boolean isSign(char c) {
    blanks();
    if (pos < text.length() && text.charAt(pos) == c) {
      pos++;
      return true;
    }
    return false;
  }

  void must(boolean fine) {
    if (!fine) {
      blanks();
      throw new Fault(1, pos);
    }
  }

  String name() {
    String w = word();
    must(!w.isEmpty() && !Arrays.asList(OWN).contains(w));
    if (w.length() > 6) {
      throw new Fault(1, pos + 6);
    }
    return w;
  }

  void newName(World w, List<String> list) {
    String n = name();
    if (w.places.contains(n) || w.people.contains(n) || w.things.contains(n)) {
      throw new Fault(3, pos);
    }
    list.add(n);
    pos += n.length();
  }

  int oldName(List<String> list, List<Integer> not) {
    String n = name();
    int i = list.indexOf(n);
    if (i < 0 || not.contains(i)) {
      throw new Fault(3, pos);
    }
    pos += n.length();
    return i;
  }

  int number(int least, int most) {
    blanks();
    must(pos < text.length() && digit(text.charAt(pos)) && (pos == 0 || !letter(text.charAt(pos - 1))));
    int end = pos;
    while (end < text.length() && digit(text.charAt(end))) {
      end++;
    }
    if (end - pos > 4) {
      throw new Fault(1, pos + 4);
    }
    int n = Integer.parseInt(text.substring(pos, end));
    if (n < least || n > most) {
      throw new Fault(2, pos);
    }
    pos = end;
    return n;
  }

  World readValley() {
    World w = new World();
    pos = 0;
    open = 0;
    for (blanks(); pos < text.length(); blanks()) {
      if (w.statements == 70) {
        throw new Fault(5, pos);
      }
      statement(w);
      must(isSign(';'));
      w.statements++;
    }
    return w;
  }

  void room(boolean room, int start) {
    if (!room) {
      throw new Fault(5, start);
    }
  }

  void statement(World w) {
    blanks();
    int start = pos;
    String first = word();
    switch (first) {
      case "place", "way", "person", "thing", "knows", "fade", "say", "hear", "rise", "catch", "breaks", "thief", "busy" ->
        pos += first.length();
      default -> throw new Fault(1, start);
    }
    switch (first) {
      case "place" -> {
        room(w.places.size() < 6, start);
        newName(w, w.places);
      }
      case "way" -> {
        int a = oldName(w.places, List.of());
        int b = oldName(w.places, List.of(a));
        must(isWord("takes"));
        int n = number(1, 99);
        w.ways.put(a + " " + b, n);
        w.ways.put(b + " " + a, n);
      }
      case "person" -> {
        room(w.people.size() < 6, start);
        newName(w, w.people);
        must(isWord("at"));
        w.homes.add(oldName(w.places, List.of()));
      }
      case "thing" -> {
        room(w.things.size() < 10, start);
        newName(w, w.things);
        must(isWord("weighs"));
        w.weighs.add(number(1, 9));
        List<Integer> from = new ArrayList<>();
        if (isWord("from")) {
          do {
            List<Integer> not = new ArrayList<>(from);
            not.add(w.things.size() - 1);
            from.add(oldName(w.things, not));
            blanks();
          } while (!(pos < text.length() && text.charAt(pos) == ';'));
        }
        w.hangs.add(from);
      }
      case "knows" -> {
        int p = oldName(w.people, List.of());
        int t = oldName(w.things, List.of());
        w.knows.put(p + " " + t, number(0, 99));
      }
      case "catch" -> w.set.put(first, number(1, 99));
      case "breaks" -> w.set.put(first, number(0, 999));
      case "thief" -> w.set.put(first, number(0, 99));
      case "busy" -> w.set.put(first, number(0, 100));
      default -> {
        room(!w.sums.containsKey(first), start);
        w.sums.put(first, sum(first.equals("rise") ? "weighs know day lies" : "weighs know day points hangs"));
      }
    }
  }

  static final String ASKED = "number weighs hangs know lies gone";

  void opened(int at) {
    if (++open > 6) {
      throw new Fault(4, at);
    }
  }

  static long cut(long v) {
    return Math.max(-1000000, Math.min(1000000, v));
  }

  Term sum(String words) {
    Term left = product(words);
    while (true) {
      if (isSign('+')) {
        Term a = left;
        Term b = product(words);
        left = m -> cut(a.of(m) + b.of(m));
      } else if (isSign('-')) {
        Term a = left;
        Term b = product(words);
        left = m -> cut(a.of(m) - b.of(m));
      } else {
        return left;
      }
    }
  }

  Term product(String words) {
    Term left = part(words);
    while (true) {
      if (isSign('*')) {
        Term a = left;
        Term b = part(words);
        left = m -> cut(a.of(m) * b.of(m));
      } else if (isSign('/')) {
        Term a = left;
        Term b = part(words);
        left = m -> b.of(m) == 0 ? 0 : (long) Math.floor((double) a.of(m) / b.of(m));
      } else {
        return left;
      }
    }
  }

  Term part(String words) {
    blanks();
    int start = pos;
    if (isSign('(')) {
      opened(start);
      Term t = sum(words);
      must(isSign(')'));
      open--;
      return t;
    }
    String w = word();
    if (w.isEmpty()) {
      long n = number(0, 9999);
      return m -> n;
    }
    if (w.equals("min") || w.equals("max")) {
      pos += 3;
      blanks();
      int at = pos;
      must(isSign('('));
      opened(at);
      Term a = sum(words);
      must(isSign(','));
      Term b = sum(words);
      must(isSign(')'));
      open--;
      return w.equals("min") ? m -> Math.min(a.of(m), b.of(m)) : m -> Math.max(a.of(m), b.of(m));
    }
    if (words.equals(ASKED) && isWord("points")) {
      opened(start);
      Term n = part(words);
      open--;
      return m -> m.getOrDefault("points" + n.of(m), 0L);
    }
    must(Arrays.asList(words.split(" ")).contains(w));
    pos += w.length();
    return m -> m.get(w);
  }

  Term test() {
    Term left = both();
    while (isWord("or")) {
      Term a = left;
      Term b = both();
      left = m -> a.of(m) + b.of(m) > 0 ? 1 : 0;
    }
    return left;
  }

  Term both() {
    Term left = fact();
    while (isWord("and")) {
      Term a = left;
      Term b = fact();
      left = m -> a.of(m) * b.of(m);
    }
    return left;
  }

  Term fact() {
    blanks();
    int start = pos;
    if (isWord("not")) {
      opened(start);
      Term a = fact();
      open--;
      return m -> a.of(m) == 0 ? 1 : 0;
    }
    if (isSign('[')) {
      opened(start);
      Term a = test();
      must(isSign(']'));
      open--;
      return a;
    }
    if (isWord("all")) {
      return m -> 1;
    }
    Term a = sum(ASKED);
    if (isSign('<')) {
      Term b = sum(ASKED);
      return m -> a.of(m) < b.of(m) ? 1 : 0;
    }
    if (isSign('>')) {
      Term b = sum(ASKED);
      return m -> a.of(m) > b.of(m) ? 1 : 0;
    }
    must(isSign('='));
    Term b = sum(ASKED);
    return m -> a.of(m) == b.of(m) ? 1 : 0;
  }

  // ---- the object

  StringBuilder tape = new StringBuilder();
  World w = new World();
  State s = new State(w);
  final List<State> acts = new ArrayList<>();
  int[] refused = new int[6];
  int fault;
  int faultAt = -1;
  long x = 1;
  List<Integer> octets = new ArrayList<>();

  int feed(int... numbers) {
    if (tape.length() + 20 > 1600) {
      refused[0]++;
      return -1;
    }
    for (int n : numbers) {
      for (int shift = 24; shift >= 0; shift -= 8) {
        tape.append((char) (n >>> shift & 255));
      }
    }
    return tape.length();
  }

  boolean end(int n) {
    if (n < 0 || n > tape.length()) {
      refused[0]++;
      return false;
    }
    tape.setLength(n);
    return true;
  }

  String takeTape() {
    String t = tape.toString();
    tape.setLength(0);
    return t;
  }

  int valley() {
    text = takeTape();
    fault = 0;
    faultAt = -1;
    try {
      w = readValley();
    } catch (Fault f) {
      fault = f.kind;
      faultAt = f.at;
      refused[1]++;
      return -1;
    }
    s = new State(w);
    acts.clear();
    return w.statements;
  }

  int fault(int what) {
    return what == 0 ? fault : what == 1 ? faultAt : -1;
  }

  boolean place(int i) {
    return i >= 0 && i < w.places.size();
  }

  boolean who(int i) {
    return i >= 0 && i < w.people.size();
  }

  boolean which(int i) {
    return i >= 0 && i < w.things.size();
  }

  static int know(State s, int t) {
    int n = 0;
    for (int[] row : s.points) {
      n += row[t] > 0 ? 1 : 0;
    }
    return n;
  }

  static int bits(int[] row) {
    int b = 0;
    for (int i = 0; i < row.length; i++) {
      b |= row[i] > 0 ? 1 << i : 0;
    }
    return b;
  }

  int has(int what) {
    switch (what) {
      case 0: return w.places.size();
      case 1: return w.people.size();
      case 2: return w.things.size();
      case 3: return s.day;
      case 4: return Arrays.stream(s.points).mapToInt(r -> Integer.bitCount(bits(r))).sum();
      case 5: return Arrays.stream(s.lies).mapToInt(r -> Arrays.stream(r).sum()).sum();
      case 6: return Arrays.stream(s.gone).sum();
      case 7: {
        int b = 0;
        for (int t = 0; t < w.things.size(); t++) {
          b |= know(s, t) == 0 ? 1 << t : 0;
        }
        return b;
      }
      case 8: return acts.size();
      default: return -1;
    }
  }

  int letter(int kind, int i, int k) {
    if (kind < 0 || kind > 2 || k < 0 || k > 5) {
      return -1;
    }
    List<String> list = List.of(w.places, w.people, w.things).get(kind);
    if (i < 0 || i >= list.size()) {
      return -1;
    }
    return k < list.get(i).length() ? list.get(i).charAt(k) - 96 : 0;
  }

  int thing(int t, int what) {
    if (!which(t)) {
      return -1;
    }
    int b = 0;
    switch (what) {
      case 0: return w.weighs.get(t);
      case 1:
        for (int h : w.hangs.get(t)) {
          b |= 1 << h;
        }
        return b;
      case 2: return know(s, t);
      case 3: return s.gone[t];
      case 4:
        for (int p = 0; p < w.people.size(); p++) {
          b |= s.lost[t][p] ? 1 << p : 0;
        }
        return b;
      default: return -1;
    }
  }

  int person(int p, int what) {
    return !who(p) ? -1 : what == 0 ? s.at[p] : what == 1 ? bits(s.points[p]) : -1;
  }

  int points(int p, int t) {
    return who(p) && which(t) ? s.points[p][t] : -1;
  }

  int lies(int a, int t) {
    return !place(a) ? -1 : t == -1 ? Arrays.stream(s.lies[a]).sum() : which(t) ? s.lies[a][t] : -1;
  }

  int way(int a, int b) {
    return w.ways.getOrDefault(a + " " + b, -1);
  }

  // ---- nature

  Map<String, Long> words(State s, int t) {
    Map<String, Long> m = new HashMap<>();
    m.put("weighs", (long) w.weighs.get(t));
    m.put("know", (long) know(s, t));
    m.put("day", (long) s.day);
    m.put("hangs", (long) w.hangs.get(t).size());
    return m;
  }

  boolean knowsRoots(State s, int p, int t) {
    for (int h : w.hangs.get(t)) {
      if (s.points[p][h] == 0) {
        return false;
      }
    }
    return true;
  }

  void lose(State s, int p, int t) {
    s.lies[s.at[p]][t] = Math.min(999, s.lies[s.at[p]][t] + w.weighs.get(t));
    s.lost[t][p] = true;
  }

  /** The FORGOTTEN ones of a NIGHT, in their order. */
  List<int[]> night(State s, int held) {
    State before = new State(s);
    Term fade = w.sums.get("fade");
    for (int p = 0; p < w.people.size(); p++) {
      for (int t = 0; t < w.things.size(); t++) {
        if (before.points[p][t] > 0 && fade != null) {
          Map<String, Long> m = words(before, t);
          m.put("points", (long) before.points[p][t]);
          s.points[p][t] = (int) Math.max(0, Math.min(99, fade.of(m)));
        }
      }
    }
    List<int[]> forgotten = new ArrayList<>();
    for (int p = 0; p < w.people.size(); p++) {
      for (int t = 0; t < w.things.size(); t++) {
        if (!knowsRoots(s, p, t)) {
          s.points[p][t] = 0;
        }
        if (before.points[p][t] > 0 && s.points[p][t] == 0) {
          lose(s, p, t);
          forgotten.add(new int[] {p, t});
        }
      }
    }
    for (int a = 0; a < w.places.size(); a++) {
      for (int t = 0; t < w.things.size(); t++) {
        Map<String, Long> m = words(s, t);
        m.put("lies", (long) s.lies[a][t]);
        long up = w.sums.containsKey("rise") ? w.sums.get("rise").of(m) : 1;
        up = (held >> a & 1) == 1 ? 0 : Math.max(0, Math.min(s.lies[a][t], up));
        s.lies[a][t] -= (int) up;
        s.gone[t] = Math.min(9999, s.gone[t] + (int) up);
      }
    }
    s.day++;
    return forgotten;
  }

  int sayIn(State s, int p, int t) {
    int heard = 0;
    Map<String, Long> m = words(s, t);
    m.put("points", (long) s.points[p][t]);
    long v = w.sums.containsKey("say") ? w.sums.get("say").of(m) : 99;
    s.points[p][t] = (int) Math.min(99, Math.max(s.points[p][t], v));
    for (int q = 0; q < w.people.size(); q++) {
      if (q != p && s.at[q] == s.at[p] && knowsRoots(s, q, t)) {
        heard++;
        if (w.sums.containsKey("hear")) {
          m = words(s, t);
          m.put("points", (long) s.points[q][t]);
          s.points[q][t] = (int) Math.min(99, Math.max(s.points[q][t], w.sums.get("hear").of(m)));
        }
      }
    }
    return heard;
  }

  boolean ahead(int n) {
    return n >= 0 && n <= 40 && s.day + n <= 9999;
  }

  int later(int p, int t, int n) {
    if (!who(p) || !which(t) || !ahead(n)) {
      return -1;
    }
    State f = new State(s);
    for (int i = 0; i < n; i++) {
      night(f, 0);
    }
    return f.points[p][t];
  }

  int forgets(int what) {
    State f = new State(s);
    for (int i = 1; ahead(i); i++) {
      List<int[]> list = night(f, 0);
      if (!list.isEmpty()) {
        return what == 0 ? i : what == 1 || what == 2 ? list.get(0)[what - 1] : -1;
      }
    }
    return -1;
  }

  int breaks(int what) {
    State f = new State(s);
    for (int i = 0; ahead(i); i++) {
      for (int a = 0; a < w.places.size(); a++) {
        if (Arrays.stream(f.lies[a]).sum() > w.set.get("breaks")) {
          return what == 0 ? i : what == 1 ? a : -1;
        }
      }
      night(f, 0);
    }
    return -1;
  }

  int keep(int p, int things, int n, int what) {
    if (!who(p) || things < 0 || things >= 1 << w.things.size() || n < 1 || n > 20 || !ahead(n)) {
      return -1;
    }
    int best = -1;
    for (int set = 0; set < 1 << w.things.size(); set++) {
      if (best >= 0 && Integer.bitCount(set) >= Integer.bitCount(best)) {
        continue;
      }
      State f = new State(s);
      for (int i = 0; i < n; i++) {
        for (int t = 0; t < w.things.size(); t++) {
          if ((set >> t & 1) == 1 && f.points[p][t] > 0) {
            sayIn(f, p, t);
          }
        }
        night(f, 0);
      }
      if ((bits(f.points[p]) & things) == things) {
        best = set;
      }
    }
    return best < 0 ? -1 : what == 0 ? Integer.bitCount(best) : what == 1 ? best : -1;
  }

  int best(int p, int n, int what) {
    if (!who(p) || n < 1 || !ahead(n)) {
      return -1;
    }
    int best = -1;
    int most = -1;
    for (int t = 0; t < w.things.size(); t++) {
      if (s.points[p][t] > 0) {
        State f = new State(s);
        sayIn(f, p, t);
        for (int i = 0; i < n; i++) {
          night(f, 0);
        }
        if (Integer.bitCount(bits(f.points[p])) > most) {
          most = Integer.bitCount(bits(f.points[p]));
          best = t;
        }
      }
    }
    return what == 0 ? best : what == 1 ? most : -1;
  }

  int shovel(int n, int places, int what) {
    if (n < 1 || !ahead(n) || places < 0 || places > w.places.size()) {
      return -1;
    }
    int best = -1;
    int most = -1;
    for (int set = 0; set < 1 << w.places.size(); set++) {
      if (Integer.bitCount(set) == places) {
        State f = new State(s);
        for (int i = 0; i < n; i++) {
          night(f, set);
        }
        int lies = Arrays.stream(f.lies).mapToInt(r -> Arrays.stream(r).sum()).sum();
        if (lies > most) {
          most = lies;
          best = set;
        }
      }
    }
    return what == 0 ? best : what == 1 ? most : -1;
  }

  List<Integer> bestRoute;
  int bestTakes;

  void walk(int at, int to, int takes, List<Integer> gone) {
    if (at == to) {
      if (bestRoute == null || takes < bestTakes) {
        bestRoute = new ArrayList<>(gone);
        bestTakes = takes;
      }
      return;
    }
    for (int b = 0; b < w.places.size(); b++) {
      if (way(at, b) > 0 && !gone.contains(b)) {
        gone.add(b);
        walk(b, to, takes + way(at, b) + lies(b, -1), gone);
        gone.remove(gone.size() - 1);
      }
    }
  }

  int route(int from, int to, int k) {
    if (!place(from) || !place(to)) {
      return -1;
    }
    bestRoute = null;
    walk(from, to, 0, new ArrayList<>());
    if (bestRoute == null) {
      return -1;
    }
    return k == -1 ? bestTakes : k >= 0 && k < bestRoute.size() ? bestRoute.get(k) : -1;
  }

  int whose() {
    String row = takeTape();
    int b = (1 << w.people.size()) - 1;
    boolean fine = row.length() >= 1 && row.length() <= 10;
    for (int i = 0; i < row.length(); i++) {
      fine &= which(row.charAt(i));
      b &= which(row.charAt(i)) ? thing(row.charAt(i), 4) : 0;
    }
    if (!fine) {
      refused[1]++;
      return -1;
    }
    return b;
  }

  boolean wins(State s, int p, int t, int n) {
    if (n == 0) {
      return s.points[p][t] > 0;
    }
    for (int said = -1; said < w.things.size(); said++) {
      if (said >= 0 && s.points[p][said] == 0) {
        continue;
      }
      State spoken = new State(s);
      if (said >= 0) {
        sayIn(spoken, p, said);
      }
      boolean all = true;
      for (int stolen = 0; stolen < w.things.size() && all; stolen++) {
        State robbed = new State(spoken);
        if (robbed.points[p][stolen] > 0) {
          robbed.points[p][stolen] = Math.max(0, robbed.points[p][stolen] - w.set.get("thief"));
          if (robbed.points[p][stolen] == 0) {
            lose(robbed, p, stolen);
          }
        }
        night(robbed, 0);
        all = wins(robbed, p, t, n - 1);
      }
      if (all) {
        return true;
      }
    }
    return false;
  }

  int against(int p, int t, int n) {
    if (!who(p) || !which(t) || n < 0 || n > 2 || !ahead(n)) {
      return -1;
    }
    return wins(s, p, t, n) ? 1 : 0;
  }

  // ---- acts

  void act() {
    acts.add(new State(s));
    if (acts.size() > 20) {
      acts.remove(0);
    }
  }

  int refuse(int what) {
    refused[what]++;
    return -1;
  }

  int say(int p, int t) {
    if (!who(p) || !which(t) || s.points[p][t] == 0) {
      return refuse(2);
    }
    act();
    return sayIn(s, p, t);
  }

  boolean take(int p, int t) {
    if (!who(p) || !which(t) || s.lies[s.at[p]][t] == 0 || !knowsRoots(s, p, t)) {
      refuse(2);
      return false;
    }
    act();
    s.lies[s.at[p]][t] = Math.max(0, s.lies[s.at[p]][t] - w.weighs.get(t));
    s.points[p][t] = Math.max(s.points[p][t], w.set.get("catch"));
    return true;
  }

  boolean go(int p, int a) {
    if (!who(p) || !place(a) || way(s.at[p], a) < 0) {
      refuse(2);
      return false;
    }
    act();
    s.at[p] = a;
    return true;
  }

  int draw(int m) {
    x = (1103515245L * x + 12345) % (1L << 31);
    return (int) (x / 64 % m);
  }

  int nights(int n) {
    if (n < 1 || n > 100 || s.day + n > 9999) {
      return refuse(3);
    }
    act();
    int sum = 0;
    for (int i = 0; i < n; i++) {
      sum += night(s, 0).size();
    }
    return sum;
  }

  int days(int n) {
    if (n < 1 || n > 100 || s.day + n > 9999) {
      return refuse(3);
    }
    act();
    int sum = 0;
    for (int i = 0; i < n; i++) {
      if (draw(100) < w.set.get("busy") && !w.people.isEmpty() && !w.things.isEmpty()) {
        int p = draw(w.people.size());
        int t = draw(w.things.size());
        if (s.points[p][t] > 0) {
          sayIn(s, p, t);
        }
      }
      sum += night(s, 0).size();
    }
    return sum;
  }

  boolean undo() {
    if (acts.isEmpty()) {
      refuse(4);
      return false;
    }
    s = acts.remove(acts.size() - 1);
    return true;
  }

  boolean seed(int seed) {
    if (seed < 0) {
      refuse(5);
      return false;
    }
    x = seed;
    return true;
  }

  long ask(int p) {
    text = takeTape();
    if (!who(p)) {
      return RisingSnow.NOTHING;
    }
    pos = 0;
    open = 0;
    fault = 0;
    faultAt = -1;
    String first;
    Term term;
    try {
      first = word();
      must(List.of("first", "last", "often", "total", "most", "least").contains(first));
      pos += first.length();
      term = "first last often".contains(first) ? test() : sum(ASKED);
      blanks();
      must(pos == text.length());
    } catch (Fault f) {
      fault = f.kind;
      faultAt = f.at;
      return RisingSnow.NOTHING;
    }
    List<Long> all = new ArrayList<>();
    for (int t = 0; t < w.things.size(); t++) {
      Map<String, Long> m = words(s, t);
      m.put("number", (long) t);
      m.put("gone", (long) s.gone[t]);
      long lies = 0;
      for (int[] row : s.lies) {
        lies += row[t];
      }
      m.put("lies", lies);
      for (int u = 0; u < w.things.size(); u++) {
        m.put("points" + u, (long) s.points[p][u]);
      }
      all.add(term.of(m));
    }
    return switch (first) {
      case "first" -> all.indexOf(1L);
      case "last" -> all.lastIndexOf(1L);
      case "often" -> all.stream().filter(v -> v == 1).count();
      case "total" -> all.stream().mapToLong(v -> v).sum();
      case "most" -> all.stream().mapToLong(v -> v).max().orElse(0);
      default -> all.stream().mapToLong(v -> v).min().orElse(0);
    };
  }

  List<Integer> written() {
    List<Integer> b = new ArrayList<>(List.of(s.day / 256, s.day % 256));
    for (int p = 0; p < w.people.size(); p++) {
      b.add(s.at[p]);
      for (int t = 0; t < w.things.size(); t++) {
        b.add(s.points[p][t]);
      }
    }
    for (int t = 0; t < w.things.size(); t++) {
      b.add(thing(t, 4));
      b.add(s.gone[t] / 256);
      b.add(s.gone[t] % 256);
      for (int[] row : s.lies) {
        b.add(row[t] / 256);
        b.add(row[t] % 256);
      }
    }
    int c = 211;
    for (int v : b) {
      c = (3 * c + v) % 251;
    }
    b.add(c);
    return b;
  }

  int image() {
    octets = written();
    return octets.size();
  }

  int octet(int k) {
    return k >= 0 && k < octets.size() ? octets.get(k) : -1;
  }

  boolean on() {
    String t = takeTape();
    State former = s;
    State f = new State(w);
    boolean fine = t.length() == written().size();
    if (fine) {
      int[] k = {0};
      f.day = t.charAt(0) * 256 + t.charAt(1);
      fine = f.day <= 9999;
      k[0] = 2;
      for (int p = 0; p < w.people.size(); p++) {
        f.at[p] = t.charAt(k[0]++);
        fine &= f.at[p] < w.places.size();
        for (int u = 0; u < w.things.size(); u++) {
          f.points[p][u] = t.charAt(k[0]++);
          fine &= f.points[p][u] <= 99;
        }
      }
      for (int u = 0; u < w.things.size(); u++) {
        int lost = t.charAt(k[0]++);
        fine &= lost < 1 << w.people.size();
        for (int p = 0; p < w.people.size(); p++) {
          f.lost[u][p] = (lost >> p & 1) == 1;
        }
        f.gone[u] = t.charAt(k[0]++) * 256 + t.charAt(k[0]++);
        fine &= f.gone[u] <= 9999;
        for (int[] row : f.lies) {
          row[u] = t.charAt(k[0]++) * 256 + t.charAt(k[0]++);
          fine &= row[u] <= 999;
        }
      }
      s = f;
      fine = fine && written().get(k[0]) == t.charAt(k[0]);
    }
    if (!fine) {
      s = former;
      refuse(5);
      return false;
    }
    acts.clear();
    return true;
  }

  int status(int what) {
    return what >= 0 && what < 6 ? refused[what] : -1;
  }
}
