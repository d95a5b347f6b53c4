/**
 * A valley told as a text, in which what is forgotten lies on the ground as snow and rises by
 * nights till it is gone. The words in capitals are those of the document.
 */
public final class RisingSnow {
    public static final int NONE = -1;
    public static final long NOTHING = -1000000000000000L;

    private static final int MOST_BYTES = 1600;
    private static final int MOST_STATEMENTS = 70;
    private static final int MOST_PLACES = 6;
    private static final int MOST_PEOPLE = 6;
    private static final int MOST_THINGS = 10;
    private static final int ALL_THINGS = (1 << MOST_THINGS) - 1;
    private static final int MOST_LETTERS = 6;
    private static final int MOST_DIGITS = 4;
    private static final int MOST_OPEN = 6;
    private static final int MOST_VALUE = 1000000;
    private static final int MOST_POINTS = 99;
    private static final int MOST_LYING = 999;
    private static final int MOST_GONE = 9999;
    private static final int LAST_DAY = 9999;
    private static final int MOST_ACTS = 20;
    private static final int MOST_AHEAD = 40;
    private static final int MOST_KEPT = 20;
    private static final int MOST_AGAINST = 2;
    private static final int MOST_AT_ONCE = 100;
    private static final int MOST_IMAGE = 219;
    private static final int FAR = 1000000000;

    // The FAULTS of texts.
    private static final int NO_SUCH_TEXT = 1;
    private static final int NO_SUCH_NUMBER = 2;
    private static final int NO_SUCH_NAME = 3;
    private static final int TOO_DEEP = 4;
    private static final int TOO_MANY = 5;

    // Kinds of tokens; a sign's kind is its byte, a listed word's kind stands below.
    private static final int END = -1;
    private static final int NUMBER = -2;
    private static final int WORD = -3;
    private static final int STUCK = -4;

    // The OWN WORDS, and behind them those that begin a QUESTION, which may be NAMES too, in columns
    // of seven; their kinds below go up by one from word to word.
    private static final int COLUMN = 7;
    private static final String WORDS = "place  way    takes  person at     thing  weighs from   knows  fade   say    hear   rise   catch  breaks thief  busy   know   day    points hangs  lies   number gone   or     and    not    all    min    max    first  last   often  total  most   least  ";
    private static final int WORD_PLACE = 300;
    private static final int WORD_WAY = 301;
    private static final int WORD_TAKES = 302;
    private static final int WORD_PERSON = 303;
    private static final int WORD_AT = 304;
    private static final int WORD_THING = 305;
    private static final int WORD_WEIGHS = 306;
    private static final int WORD_FROM = 307;
    private static final int WORD_KNOWS = 308;
    private static final int WORD_FADE = 309;
    private static final int WORD_RISE = 312;
    private static final int WORD_CATCH = 313;
    private static final int WORD_BREAKS = 314;
    private static final int WORD_THIEF = 315;
    private static final int WORD_BUSY = 316;
    private static final int WORD_KNOW = 317;
    private static final int WORD_DAY = 318;
    private static final int WORD_POINTS = 319;
    private static final int WORD_HANGS = 320;
    private static final int WORD_LIES = 321;
    private static final int WORD_NUMBER = 322;
    private static final int WORD_GONE = 323;
    private static final int WORD_OR = 324;
    private static final int WORD_AND = 325;
    private static final int WORD_NOT = 326;
    private static final int WORD_ALL = 327;
    private static final int WORD_MIN = 328;
    private static final int WORD_MAX = 329;
    private static final int WORD_FIRST = 330;
    private static final int WORD_LAST = 331;
    private static final int WORD_OFTEN = 332;
    private static final int WORD_TOTAL = 333;
    private static final int WORD_MOST = 334;

    // The SUMS of a VALLEY, in the order of their words.
    private static final int FADE = 0;
    private static final int SAY = 1;
    private static final int HEAR = 2;
    private static final int RISE = 3;
    private static final int SUMS = 4;
    private static final int QUESTION = 4;

    // Steps of a SUM or a TEST; a step from 0 on is a number. Those down to OR take two values.
    private static final int ADD = -1;
    private static final int SUBTRACT = -2;
    private static final int MULTIPLY = -3;
    private static final int DIVIDE = -4;
    private static final int LESSER = -5;
    private static final int GREATER = -6;
    private static final int IS_BELOW = -7;
    private static final int IS_ABOVE = -8;
    private static final int IS_SAME = -9;
    private static final int BOTH = -10;
    private static final int EITHER = -11;
    private static final int OPPOSITE = -12;
    private static final int POINTS_OF = -13;
    private static final int WEIGHS = -14;
    private static final int KNOW = -15;
    private static final int DAY = -16;
    private static final int POINTS = -17;
    private static final int HANGS = -18;
    private static final int LIES = -19;
    private static final int ITS_NUMBER = -20;
    private static final int GONE = -21;
    private static final int NO_STEP = -22;
    private static final int MOST_STACKED = 64;

    // What was refused, as status() counts it.
    private static final int REFUSED_TAPE = 0;
    private static final int REFUSED_TEXT = 1;
    private static final int REFUSED_DEED = 2;
    private static final int REFUSED_TIME = 3;
    private static final int REFUSED_UNDO = 4;
    private static final int REFUSED_SET = 5;
    private static final int REFUSALS = 6;

    private final Tape tape;
    private final Tokens tokens;
    private final ValleyReader reader;
    private final Questions questions;
    private final Nature nature;
    private final Ahead ahead;
    private final Moment now;
    private final Moment[] past;
    private final int[] octets;
    private final int[] refused;
    private Valley told;
    private Valley draft;
    private int pastFirst;
    private int pastCount;
    private int octetCount;
    private int fault;
    private int faultAt;
    private int seed;

    public RisingSnow() {
        Machine machine = new Machine();
        tape = new Tape();
        tokens = new Tokens(tape);
        Formulas formulas = new Formulas(tokens);
        reader = new ValleyReader(tokens, formulas);
        questions = new Questions(tokens, formulas, machine);
        nature = new Nature(machine);
        ahead = new Ahead(nature);
        now = new Moment();
        past = new Moment[MOST_ACTS];
        octets = new int[MOST_IMAGE];
        refused = new int[REFUSALS];
        told = new Valley();
        draft = new Valley();
        faultAt = NONE;
        seed = 1;
    }

    public int feed(int a, int b, int c, int d, int e) {
        if (tape.size + 20 > MOST_BYTES) {
            return refuse(REFUSED_TAPE);
        }
        tape.append(a);
        tape.append(b);
        tape.append(c);
        tape.append(d);
        tape.append(e);
        return tape.size;
    }

    public boolean end(int n) {
        if (n < 0 || n > tape.size) {
            refuse(REFUSED_TAPE);
            return false;
        }
        tape.size = n;
        return true;
    }

    public int valley() {
        int statements = reader.read(draft);
        noteFault();
        if (statements == NONE) {
            return refuse(REFUSED_TEXT);
        }
        Valley former = told;
        told = draft;
        draft = former;
        now.begin(told);
        pastCount = 0;
        return statements;
    }

    public int fault(int what) {
        if (what == 0) {
            return fault;
        }
        return what == 1 ? faultAt : NONE;
    }

    public int has(int what) {
        switch (what) {
            case 0:
                return told.places.count;
            case 1:
                return told.people.count;
            case 2:
                return told.things.count;
            case 3:
                return now.day;
            case 4:
                return knownByAll();
            case 5:
                return lyingInAll();
            case 6:
                return goneOfAll();
            case 7:
                return knownByNobody();
            case 8:
                return pastCount;
            default:
                return NONE;
        }
    }

    public int letter(int kind, int which, int k) {
        if (kind < 0 || kind > 2 || k < 0 || k >= MOST_LETTERS) {
            return NONE;
        }
        Names names = kind == 0 ? told.places : kind == 1 ? told.people : told.things;
        return which >= 0 && which < names.count ? names.letterOf(which, k) : NONE;
    }

    public int thing(int thing, int what) {
        if (!isThing(thing)) {
            return NONE;
        }
        switch (what) {
            case 0:
                return told.weights[thing];
            case 1:
                return told.hangs[thing];
            case 2:
                return now.countKnowing(thing);
            case 3:
                return now.gone[thing];
            case 4:
                return now.lost[thing];
            default:
                return NONE;
        }
    }

    public int person(int person, int what) {
        if (!isPerson(person) || what < 0 || what > 1) {
            return NONE;
        }
        return what == 0 ? now.stays[person] : now.knownBy(person);
    }

    public int points(int person, int thing) {
        return isPerson(person) && isThing(thing) ? now.pointsOf(person, thing) : NONE;
    }

    public int lies(int place, int thing) {
        if (!isPlace(place)) {
            return NONE;
        }
        if (thing == NONE) {
            return now.lyingIn(place);
        }
        return isThing(thing) ? now.lying[place * MOST_THINGS + thing] : NONE;
    }

    public int way(int from, int to) {
        if (!isPlace(from) || !isPlace(to)) {
            return NONE;
        }
        int takes = told.ways[from * MOST_PLACES + to];
        return takes > 0 ? takes : NONE;
    }

    public int later(int person, int thing, int n) {
        if (!isPerson(person) || !isThing(thing) || n < 0 || !isAhead(n)) {
            return NONE;
        }
        return ahead.pointsLater(told, now, person, thing, n);
    }

    public int forgets(int what) {
        if (what < 0 || what > 2 || !ahead.findForgotten(told, now)) {
            return NONE;
        }
        return what == 0 ? ahead.foundNights : what == 1 ? nature.firstWho : nature.firstWhich;
    }

    public int breaks(int what) {
        if (what < 0 || what > 1 || !ahead.findBreak(told, now)) {
            return NONE;
        }
        return what == 0 ? ahead.foundNights : ahead.foundPlace;
    }

    public int keep(int person, int things, int n, int what) {
        if (!isPerson(person) || things < 0 || things >> told.things.count != 0 || what < 0 || what > 1) {
            return NONE;
        }
        if (n < 1 || n > MOST_KEPT || !isAhead(n)) {
            return NONE;
        }
        int said = ahead.fewestToKeep(told, now, person, things, n);
        return said == NONE || what == 1 ? said : Integer.bitCount(said);
    }

    public int best(int person, int n, int what) {
        if (!isPerson(person) || n < 1 || !isAhead(n) || what < 0 || what > 1) {
            return NONE;
        }
        if (!ahead.findBest(told, now, person, n)) {
            return NONE;
        }
        return what == 0 ? ahead.foundThing : ahead.foundCount;
    }

    public int shovel(int n, int places, int what) {
        if (n < 1 || !isAhead(n) || places < 0 || places > told.places.count || what < 0 || what > 1) {
            return NONE;
        }
        ahead.findShovelled(told, now, n, places);
        return what == 0 ? ahead.foundBits : ahead.foundCount;
    }

    public int route(int from, int to, int k) {
        if (!isPlace(from) || !isPlace(to) || k < NONE) {
            return NONE;
        }
        return ahead.routeStep(told, now, from, to, k);
    }

    public int whose() {
        int size = tape.size;
        boolean row = size >= 1 && size <= MOST_THINGS;
        int people = (1 << told.people.count) - 1;
        for (int i = 0; i < size && row; i++) {
            int which = tape.at(i);
            row = isThing(which);
            if (row) {
                people &= now.lost[which];
            }
        }
        tape.size = 0;
        return row ? people : refuse(REFUSED_TEXT);
    }

    public int against(int person, int thing, int n) {
        if (!isPerson(person) || !isThing(thing) || n < 0 || n > MOST_AGAINST || !isAhead(n)) {
            return NONE;
        }
        return ahead.holdsAgainst(told, now, person, thing, n) ? 1 : 0;
    }

    public int say(int person, int thing) {
        if (!isPerson(person) || !isThing(thing) || now.pointsOf(person, thing) == 0) {
            return refuse(REFUSED_DEED);
        }
        remember();
        return nature.speak(told, now, person, thing);
    }

    public boolean take(int person, int thing) {
        if (!isPerson(person) || !isThing(thing) || !nature.canCatch(told, now, person, thing)) {
            refuse(REFUSED_DEED);
            return false;
        }
        remember();
        nature.catchThing(told, now, person, thing);
        return true;
    }

    public boolean go(int person, int place) {
        if (!isPerson(person) || !isPlace(place) || told.ways[now.stays[person] * MOST_PLACES + place] == 0) {
            refuse(REFUSED_DEED);
            return false;
        }
        remember();
        now.stays[person] = place;
        return true;
    }

    public int nights(int n) {
        if (n < 1 || n > MOST_AT_ONCE || n > LAST_DAY - now.day) {
            return refuse(REFUSED_TIME);
        }
        remember();
        int forgotten = 0;
        for (int i = 0; i < n; i++) {
            forgotten += nature.passNight(told, now, 0);
        }
        return forgotten;
    }

    public int days(int n) {
        if (n < 1 || n > MOST_AT_ONCE || n > LAST_DAY - now.day) {
            return refuse(REFUSED_TIME);
        }
        remember();
        int forgotten = 0;
        for (int i = 0; i < n; i++) {
            spendDay();
            forgotten += nature.passNight(told, now, 0);
        }
        return forgotten;
    }

    public boolean undo() {
        int latest = (pastFirst + pastCount - 1 + MOST_ACTS) % MOST_ACTS;
        if (pastCount == 0 || past[latest] == null) {
            refuse(REFUSED_UNDO);
            return false;
        }
        now.copy(past[latest]);
        pastCount--;
        return true;
    }

    public boolean seed(int seed) {
        if (seed < 0) {
            refuse(REFUSED_SET);
            return false;
        }
        this.seed = seed;
        return true;
    }

    public long ask(int person) {
        if (!isPerson(person)) {
            tape.size = 0;
            return NOTHING;
        }
        boolean fine = questions.read();
        noteFault();
        return fine ? questions.answer(told, now, person) : NOTHING;
    }

    public int image() {
        octetCount = now.writeImage(told, octets);
        return octetCount;
    }

    public int octet(int k) {
        return k >= 0 && k < octetCount ? octets[k] : NONE;
    }

    public boolean on() {
        boolean fine = now.isImage(told, tape);
        if (fine) {
            now.readImage(told, tape);
            pastCount = 0;
        }
        tape.size = 0;
        if (!fine) {
            refuse(REFUSED_SET);
        }
        return fine;
    }

    public int status(int what) {
        return what >= 0 && what < REFUSALS ? refused[what] : NONE;
    }

    private int refuse(int what) {
        if (what >= 0 && what < REFUSALS) {
            refused[what]++;
        }
        return NONE;
    }

    private void noteFault() {
        fault = tokens.fault;
        faultAt = tokens.faultAt;
        tape.size = 0;
    }

    /** Keeps how all is ahead of an ACT; of more than can be undone the oldest goes. */
    private void remember() {
        if (pastCount == MOST_ACTS) {
            pastFirst = (pastFirst + 1) % MOST_ACTS;
            pastCount--;
        }
        int free = (pastFirst + pastCount) % MOST_ACTS;
        Moment kept = past[free];
        if (kept == null) {
            kept = new Moment();
            past[free] = kept;
        }
        kept.copy(now);
        pastCount++;
    }

    private boolean isPlace(int place) {
        return place >= 0 && place < told.places.count;
    }

    private boolean isPerson(int person) {
        return person >= 0 && person < told.people.count;
    }

    private boolean isThing(int thing) {
        return thing >= 0 && thing < told.things.count;
    }

    private boolean isAhead(int n) {
        return n <= MOST_AHEAD && n <= LAST_DAY - now.day;
    }

    private int knownByAll() {
        int sum = 0;
        for (int t = 0; t < told.things.count; t++) {
            sum += now.countKnowing(t);
        }
        return sum;
    }

    private int lyingInAll() {
        int sum = 0;
        for (int place = 0; place < told.places.count; place++) {
            sum += now.lyingIn(place);
        }
        return sum;
    }

    private int goneOfAll() {
        int sum = 0;
        for (int t = 0; t < told.things.count; t++) {
            sum += now.gone[t];
        }
        return sum;
    }

    private int knownByNobody() {
        int bits = 0;
        for (int t = 0; t < told.things.count; t++) {
            if (now.countKnowing(t) == 0) {
                bits |= 1 << t;
            }
        }
        return bits;
    }

    private void spendDay() {
        if (draw(100) >= told.busy || told.people.count == 0 || told.things.count == 0) {
            return;
        }
        int who = draw(told.people.count);
        int which = draw(told.things.count);
        if (now.pointsOf(who, which) > 0) {
            nature.speak(told, now, who, which);
        }
    }

    private int draw(int m) {
        seed = (int) ((1103515245L * seed + 12345L) & 0x7fffffffL);
        return m > 0 ? (seed / 64) % m : 0;
    }

    private static int within(int value, int least, int most) {
        return value < least ? least : value > most ? most : value;
    }

    /** The bytes that were fed. */
    static final class Tape {
        final int[] bytes;
        int size;

        Tape() {
            bytes = new int[MOST_BYTES];
            size = 0;
        }

        void append(int number) {
            for (int shift = 24; shift >= 0; shift -= 8) {
                if (size < MOST_BYTES) {
                    bytes[size] = (number >>> shift) & 255;
                    size++;
                }
            }
        }

        int at(int k) {
            return k >= 0 && k < size ? bytes[k] : NONE;
        }

        int twoAt(int k) {
            return at(k) * 256 + at(k + 1);
        }

        /** Whether one of so many bytes is above the most it may be. */
        boolean isAbove(int most, int from, int count) {
            for (int k = from; k < from + count; k++) {
                if (at(k) > most) {
                    return true;
                }
            }
            return false;
        }
    }

    /** Goes along the tape token by token, and keeps the first FAULT. */
    static final class Tokens {
        final Tape tape;
        int kind;
        int start;
        int size;
        int value;
        int behind;
        int fault;
        int faultAt;

        Tokens(Tape tape) {
            this.tape = tape;
            faultAt = NONE;
        }

        void begin() {
            behind = 0;
            fault = 0;
            faultAt = NONE;
            next();
        }

        boolean refuseAt(int fault, int at) {
            if (this.fault == 0) {
                this.fault = fault;
                this.faultAt = at;
            }
            return false;
        }

        boolean refuseHere(int fault) {
            return refuseAt(fault, start);
        }

        void next() {
            int former = behind;
            while (behind < tape.size && isBlank(tape.bytes[behind])) {
                behind++;
            }
            start = behind;
            size = 0;
            value = 0;
            if (start >= tape.size) {
                kind = END;
                return;
            }
            int sort = sortOf(tape.bytes[start]);
            behind++;
            while (sort != 0 && behind < tape.size && sortOf(tape.bytes[behind]) == sort) {
                behind++;
            }
            size = behind - start;
            if (sort == 0) {
                kind = tape.bytes[start];
            } else if (start == former && start > 0 && sortOf(tape.bytes[start - 1]) != 0) {
                kind = STUCK;
            } else {
                kind = sort == 1 ? wordKind() : numberKind();
            }
        }

        private static boolean isBlank(int c) {
            return c == 10 || c == 32;
        }

        /** 1 for a letter, 2 for a digit, 0 for others. */
        private static int sortOf(int c) {
            if (c >= 'a' && c <= 'z') {
                return 1;
            }
            return c >= '0' && c <= '9' ? 2 : 0;
        }

        private int wordKind() {
            if (size > MOST_LETTERS) {
                return WORD;
            }
            int word = WORD_PLACE;
            for (int from = 0; from + COLUMN <= WORDS.length(); from += COLUMN) {
                int k = 0;
                while (k < size && WORDS.charAt(from + k) == tape.bytes[start + k]) {
                    k++;
                }
                if (k == size && WORDS.charAt(from + k) == ' ') {
                    return word;
                }
                word++;
            }
            return WORD;
        }

        private int numberKind() {
            for (int i = 0; i < size && i < MOST_DIGITS; i++) {
                value = value * 10 + tape.bytes[start + i] - '0';
            }
            return NUMBER;
        }

        boolean skip(int wanted) {
            if (kind != wanted) {
                return false;
            }
            next();
            return true;
        }

        boolean need(int wanted) {
            if (kind != wanted) {
                return refuseHere(NO_SUCH_TEXT);
            }
            next();
            return true;
        }

        /** Whether the token is a number; it stays. */
        boolean isNumber() {
            if (kind != NUMBER) {
                return refuseAt(NO_SUCH_TEXT, start);
            }
            return size <= MOST_DIGITS || refuseAt(NO_SUCH_TEXT, start + MOST_DIGITS);
        }

        /** Whether the token can be a NAME; it stays. */
        boolean isName() {
            if (kind != WORD && kind < WORD_FIRST) {
                return refuseAt(NO_SUCH_TEXT, start);
            }
            return size <= MOST_LETTERS || refuseAt(NO_SUCH_TEXT, start + MOST_LETTERS);
        }

        /** Takes a number from least to most; NONE with a FAULT. */
        int takeNumber(int least, int most) {
            if (!isNumber()) {
                return NONE;
            }
            if (value < least || value > most) {
                refuseHere(NO_SUCH_NUMBER);
                return NONE;
            }
            int number = value;
            next();
            return number;
        }
    }

    /** NAMES of one sort, by their numbers. */
    static final class Names {
        final int[] letters;
        final int most;
        int count;

        Names(int most) {
            this.most = most < 0 ? 0 : most;
            letters = new int[this.most * MOST_LETTERS];
            count = 0;
        }

        int letterOf(int which, int k) {
            return letters[which * MOST_LETTERS + k];
        }

        int indexOf(Tokens word) {
            for (int which = 0; which < count; which++) {
                boolean same = true;
                for (int k = 0; k < MOST_LETTERS && same; k++) {
                    same = letterOf(which, k) == letterIn(word, k);
                }
                if (same) {
                    return which;
                }
            }
            return NONE;
        }

        void add(Tokens word) {
            if (count < most) {
                for (int k = 0; k < MOST_LETTERS; k++) {
                    letters[count * MOST_LETTERS + k] = letterIn(word, k);
                }
                count++;
            }
        }

        private static int letterIn(Tokens word, int k) {
            return k < word.size ? word.tape.bytes[word.start + k] - 'a' + 1 : 0;
        }
    }

    /** What a text tells. */
    static final class Valley {
        final Names places;
        final Names people;
        final Names things;
        final int[] ways;
        final int[] homes;
        final int[] weights;
        final int[] hangs;
        final int[] points;
        final int[] steps;
        final int[] from;
        final int[] to;
        int catches;
        int breaks;
        int thief;
        int busy;

        Valley() {
            places = new Names(MOST_PLACES);
            people = new Names(MOST_PEOPLE);
            things = new Names(MOST_THINGS);
            ways = new int[MOST_PLACES * MOST_PLACES];
            homes = new int[MOST_PEOPLE];
            weights = new int[MOST_THINGS];
            hangs = new int[MOST_THINGS];
            points = new int[MOST_PEOPLE * MOST_THINGS];
            steps = new int[MOST_BYTES];
            from = new int[SUMS];
            to = new int[SUMS];
            clear();
        }

        void clear() {
            places.count = 0;
            people.count = 0;
            things.count = 0;
            for (int i = 0; i < ways.length; i++) {
                ways[i] = 0;
            }
            for (int i = 0; i < points.length; i++) {
                points[i] = 0;
            }
            for (int i = 0; i < SUMS; i++) {
                from[i] = NONE;
                to[i] = NONE;
            }
            catches = 30;
            breaks = 20;
            thief = 10;
            busy = 0;
        }

        boolean isNamed(Tokens word) {
            return places.indexOf(word) != NONE || people.indexOf(word) != NONE || things.indexOf(word) != NONE;
        }

        /** The things, and all on which they hang, and so on. */
        int withRoots(int bits) {
            int all = bits;
            for (int t = things.count - 1; t >= 0; t--) {
                if ((all >> t & 1) != 0) {
                    all |= hangs[t];
                }
            }
            return all;
        }
    }

    /** Turns SUMS and TESTS into steps: values first, then what joins them. */
    static final class Formulas {
        final Tokens tokens;
        final int[] ofQuestion;
        int[] steps;
        int size;
        int sort;
        int open;

        Formulas(Tokens tokens) {
            this.tokens = tokens;
            ofQuestion = new int[MOST_BYTES];
            steps = ofQuestion;
        }

        void begin(int[] steps, int size, int sort) {
            this.steps = steps;
            this.size = size;
            this.sort = sort;
            open = 0;
        }

        private void put(int step) {
            if (size >= 0 && size < steps.length) {
                steps[size] = step;
                size++;
            }
        }

        /** One more is open from this token on. */
        private boolean openHere() {
            if (open >= MOST_OPEN) {
                return tokens.refuseHere(TOO_DEEP);
            }
            open++;
            tokens.next();
            return true;
        }

        private boolean openBracket() {
            return tokens.kind == '(' ? openHere() : tokens.refuseHere(NO_SUCH_TEXT);
        }

        private boolean shut(int sign) {
            if (tokens.kind != sign) {
                return tokens.refuseHere(NO_SUCH_TEXT);
            }
            open--;
            tokens.next();
            return true;
        }

        private boolean readTest() {
            if (!readBoth()) {
                return false;
            }
            for (int i = 0; i < MOST_BYTES && tokens.skip(WORD_OR); i++) {
                if (!readBoth()) {
                    return false;
                }
                put(EITHER);
            }
            return true;
        }

        private boolean readBoth() {
            if (!readFact()) {
                return false;
            }
            for (int i = 0; i < MOST_BYTES && tokens.skip(WORD_AND); i++) {
                if (!readFact()) {
                    return false;
                }
                put(BOTH);
            }
            return true;
        }

        private boolean readFact() {
            switch (tokens.kind) {
                case WORD_NOT:
                    if (!openHere() || !readFact()) {
                        return false;
                    }
                    open--;
                    put(OPPOSITE);
                    return true;
                case '[':
                    return openHere() && readTest() && shut(']');
                case WORD_ALL:
                    put(1);
                    tokens.next();
                    return true;
                default:
                    return readComparison();
            }
        }

        private boolean readComparison() {
            if (!readSum()) {
                return false;
            }
            int sign = tokens.kind;
            if (sign != '<' && sign != '>' && sign != '=') {
                return tokens.refuseHere(NO_SUCH_TEXT);
            }
            tokens.next();
            if (!readSum()) {
                return false;
            }
            put(sign == '<' ? IS_BELOW : sign == '>' ? IS_ABOVE : IS_SAME);
            return true;
        }

        private boolean readSum() {
            if (!readProduct()) {
                return false;
            }
            for (int i = 0; i < MOST_BYTES; i++) {
                int sign = tokens.kind;
                if (sign != '+' && sign != '-') {
                    break;
                }
                tokens.next();
                if (!readProduct()) {
                    return false;
                }
                put(sign == '+' ? ADD : SUBTRACT);
            }
            return true;
        }

        private boolean readProduct() {
            if (!readPart()) {
                return false;
            }
            for (int i = 0; i < MOST_BYTES; i++) {
                int sign = tokens.kind;
                if (sign != '*' && sign != '/') {
                    break;
                }
                tokens.next();
                if (!readPart()) {
                    return false;
                }
                put(sign == '*' ? MULTIPLY : DIVIDE);
            }
            return true;
        }

        private boolean readPart() {
            switch (tokens.kind) {
                case '(':
                    return openHere() && readSum() && shut(')');
                case WORD_MIN:
                    return readPair(LESSER);
                case WORD_MAX:
                    return readPair(GREATER);
                case NUMBER:
                    if (!tokens.isNumber()) {
                        return false;
                    }
                    put(tokens.value);
                    tokens.next();
                    return true;
                default:
                    return readWord();
            }
        }

        private boolean readPair(int step) {
            tokens.next();
            if (!openBracket() || !readSum() || !tokens.need(',') || !readSum() || !shut(')')) {
                return false;
            }
            put(step);
            return true;
        }

        private boolean readWord() {
            if (sort == QUESTION && tokens.kind == WORD_POINTS) {
                if (!openHere() || !readPart()) {
                    return false;
                }
                open--;
                put(POINTS_OF);
                return true;
            }
            int step = stepOf(tokens.kind);
            if (step == NO_STEP) {
                return tokens.refuseHere(NO_SUCH_TEXT);
            }
            put(step);
            tokens.next();
            return true;
        }

        private int stepOf(int kind) {
            switch (kind) {
                case WORD_WEIGHS:
                    return WEIGHS;
                case WORD_KNOW:
                    return KNOW;
                case WORD_DAY:
                    return sort != QUESTION ? DAY : NO_STEP;
                case WORD_POINTS:
                    return sort <= HEAR ? POINTS : NO_STEP;
                case WORD_HANGS:
                    return sort != RISE ? HANGS : NO_STEP;
                case WORD_LIES:
                    return sort >= RISE ? LIES : NO_STEP;
                case WORD_NUMBER:
                    return sort == QUESTION ? ITS_NUMBER : NO_STEP;
                case WORD_GONE:
                    return sort == QUESTION ? GONE : NO_STEP;
                default:
                    return NO_STEP;
            }
        }
    }

    /** Reads the text of a VALLEY. */
    static final class ValleyReader {
        final Tokens tokens;
        final Formulas formulas;
        int written;

        ValleyReader(Tokens tokens, Formulas formulas) {
            this.tokens = tokens;
            this.formulas = formulas;
        }

        /** How many STATEMENTS; NONE with a FAULT. */
        int read(Valley draft) {
            draft.clear();
            written = 0;
            tokens.begin();
            int statements = 0;
            while (statements < MOST_STATEMENTS && tokens.kind != END) {
                if (!readStatement(draft) || !tokens.need(';')) {
                    return NONE;
                }
                statements++;
            }
            if (tokens.kind != END) {
                tokens.refuseHere(TOO_MANY);
                return NONE;
            }
            return statements;
        }

        private boolean readStatement(Valley v) {
            int word = tokens.kind;
            if (word >= WORD_FADE && word <= WORD_RISE) {
                return readRule(v, word - WORD_FADE);
            }
            switch (word) {
                case WORD_PLACE:
                    return readNew(v, v.places);
                case WORD_WAY:
                    return readWay(v);
                case WORD_PERSON:
                    return readPerson(v);
                case WORD_THING:
                    return readThing(v);
                case WORD_KNOWS:
                    return readKnows(v);
                case WORD_CATCH:
                case WORD_BREAKS:
                case WORD_THIEF:
                case WORD_BUSY:
                    return readSetting(v, word);
                default:
                    return tokens.refuseHere(NO_SUCH_TEXT);
            }
        }

        /** The first word of a STATEMENT that gives a NAME, and that NAME. */
        private boolean readNew(Valley v, Names names) {
            if (names.count >= names.most) {
                return tokens.refuseHere(TOO_MANY);
            }
            tokens.next();
            if (!tokens.isName()) {
                return false;
            }
            if (v.isNamed(tokens)) {
                return tokens.refuseHere(NO_SUCH_NAME);
            }
            names.add(tokens);
            tokens.next();
            return true;
        }

        /** The number of a NAME told ahead that is none of the barred ones; NONE with a FAULT. */
        private int readOld(Names names, int barred) {
            if (!tokens.isName()) {
                return NONE;
            }
            int which = names.indexOf(tokens);
            if (which == NONE || (barred >> which & 1) != 0) {
                tokens.refuseHere(NO_SUCH_NAME);
                return NONE;
            }
            tokens.next();
            return which;
        }

        private boolean readWay(Valley v) {
            tokens.next();
            int one = readOld(v.places, 0);
            if (one == NONE) {
                return false;
            }
            int other = readOld(v.places, 1 << one);
            if (other == NONE || !tokens.need(WORD_TAKES)) {
                return false;
            }
            int takes = tokens.takeNumber(1, 99);
            if (takes == NONE) {
                return false;
            }
            v.ways[one * MOST_PLACES + other] = takes;
            v.ways[other * MOST_PLACES + one] = takes;
            return true;
        }

        private boolean readPerson(Valley v) {
            int who = v.people.count;
            if (!readNew(v, v.people) || !tokens.need(WORD_AT)) {
                return false;
            }
            int place = readOld(v.places, 0);
            if (place == NONE || who >= MOST_PEOPLE) {
                return false;
            }
            v.homes[who] = place;
            return true;
        }

        private boolean readThing(Valley v) {
            int which = v.things.count;
            if (!readNew(v, v.things) || !tokens.need(WORD_WEIGHS)) {
                return false;
            }
            int weight = tokens.takeNumber(1, 9);
            if (weight == NONE || which >= MOST_THINGS) {
                return false;
            }
            v.weights[which] = weight;
            v.hangs[which] = 0;
            return !tokens.skip(WORD_FROM) || readRoots(v, which);
        }

        private boolean readRoots(Valley v, int which) {
            int roots = 0;
            for (int i = 0; i < MOST_THINGS; i++) {
                int root = readOld(v.things, roots | 1 << which);
                if (root == NONE) {
                    return false;
                }
                roots |= 1 << root;
                if (tokens.kind == ';') {
                    break;
                }
            }
            v.hangs[which] = roots;
            return true;
        }

        private boolean readKnows(Valley v) {
            tokens.next();
            int who = readOld(v.people, 0);
            if (who == NONE) {
                return false;
            }
            int which = readOld(v.things, 0);
            if (which == NONE) {
                return false;
            }
            int points = tokens.takeNumber(0, MOST_POINTS);
            if (points == NONE) {
                return false;
            }
            v.points[who * MOST_THINGS + which] = points;
            return true;
        }

        private boolean readRule(Valley v, int sum) {
            if (v.from[sum] != NONE) {
                return tokens.refuseHere(TOO_MANY);
            }
            tokens.next();
            formulas.begin(v.steps, written, sum);
            if (!formulas.readSum()) {
                return false;
            }
            v.from[sum] = written;
            v.to[sum] = formulas.size;
            written = formulas.size;
            return true;
        }

        private boolean readSetting(Valley v, int word) {
            tokens.next();
            int least = word == WORD_CATCH ? 1 : 0;
            int most = word == WORD_BREAKS ? 999 : word == WORD_BUSY ? 100 : 99;
            int number = tokens.takeNumber(least, most);
            if (number == NONE) {
                return false;
            }
            if (word == WORD_CATCH) {
                v.catches = number;
            } else if (word == WORD_BREAKS) {
                v.breaks = number;
            } else if (word == WORD_THIEF) {
                v.thief = number;
            } else {
                v.busy = number;
            }
            return true;
        }
    }

    /** Reads QUESTIONS and answers them. */
    static final class Questions {
        final Tokens tokens;
        final Formulas formulas;
        final Machine machine;
        int word;

        Questions(Tokens tokens, Formulas formulas, Machine machine) {
            this.tokens = tokens;
            this.formulas = formulas;
            this.machine = machine;
        }

        /** Whether the tape is a QUESTION. */
        boolean read() {
            tokens.begin();
            word = tokens.kind;
            if (word < WORD_FIRST) {
                return tokens.refuseHere(NO_SUCH_TEXT);
            }
            tokens.next();
            formulas.begin(formulas.ofQuestion, 0, QUESTION);
            boolean fine = word <= WORD_OFTEN ? formulas.readTest() : formulas.readSum();
            return fine && (tokens.kind == END || tokens.refuseHere(NO_SUCH_TEXT));
        }

        long answer(Valley v, Moment m, int who) {
            long answer = word <= WORD_LAST ? NONE : 0;
            machine.learn(m, who, v.things.count);
            for (int t = 0; t < v.things.count; t++) {
                int value = valueFor(v, m, t);
                switch (word) {
                    case WORD_FIRST:
                        answer = value != 0 && answer == NONE ? t : answer;
                        break;
                    case WORD_LAST:
                        answer = value != 0 ? t : answer;
                        break;
                    case WORD_OFTEN:
                        answer += value != 0 ? 1 : 0;
                        break;
                    case WORD_TOTAL:
                        answer += value;
                        break;
                    case WORD_MOST:
                        answer = t == 0 ? value : Math.max(answer, value);
                        break;
                    default:
                        answer = t == 0 ? value : Math.min(answer, value);
                        break;
                }
            }
            return answer;
        }

        private int valueFor(Valley v, Moment m, int which) {
            machine.turnTo(v, m, which);
            machine.tell(ITS_NUMBER, which);
            machine.tell(GONE, m.gone[which]);
            machine.tell(LIES, m.lyingOf(which));
            return machine.run(formulas.ofQuestion, 0, formulas.size);
        }
    }

    /** How all is at a time. */
    static final class Moment {
        final int[] stays;
        final int[] points;
        final int[] lying;
        final int[] gone;
        final int[] lost;
        int day;

        Moment() {
            stays = new int[MOST_PEOPLE];
            points = new int[MOST_PEOPLE * MOST_THINGS];
            lying = new int[MOST_PLACES * MOST_THINGS];
            gone = new int[MOST_THINGS];
            lost = new int[MOST_THINGS];
            day = 0;
        }

        void copy(Moment other) {
            copyKnowing(other);
            System.arraycopy(other.lying, 0, lying, 0, lying.length);
            System.arraycopy(other.gone, 0, gone, 0, gone.length);
            System.arraycopy(other.lost, 0, lost, 0, lost.length);
        }

        /** What is known, without the snow, on which no knowing depends. */
        void copyKnowing(Moment other) {
            day = other.day;
            System.arraycopy(other.stays, 0, stays, 0, stays.length);
            System.arraycopy(other.points, 0, points, 0, points.length);
        }

        void begin(Valley v) {
            day = 0;
            System.arraycopy(v.homes, 0, stays, 0, stays.length);
            System.arraycopy(v.points, 0, points, 0, points.length);
            for (int i = 0; i < lying.length; i++) {
                lying[i] = 0;
            }
            for (int t = 0; t < MOST_THINGS; t++) {
                gone[t] = 0;
                lost[t] = 0;
            }
        }

        int pointsOf(int who, int which) {
            return points[who * MOST_THINGS + which];
        }

        int knownBy(int who) {
            int bits = 0;
            for (int t = 0; t < MOST_THINGS; t++) {
                if (points[who * MOST_THINGS + t] > 0) {
                    bits |= 1 << t;
                }
            }
            return bits;
        }

        boolean knowsAll(int who, int things) {
            return (things & ~knownBy(who)) == 0;
        }

        int countKnowing(int which) {
            int count = 0;
            for (int p = 0; p < MOST_PEOPLE; p++) {
                if (points[p * MOST_THINGS + which] > 0) {
                    count++;
                }
            }
            return count;
        }

        int lyingIn(int place) {
            int sum = 0;
            for (int t = 0; t < MOST_THINGS; t++) {
                sum += lying[place * MOST_THINGS + t];
            }
            return sum;
        }

        int lyingOf(int which) {
            int sum = 0;
            for (int place = 0; place < MOST_PLACES; place++) {
                sum += lying[place * MOST_THINGS + which];
            }
            return sum;
        }

        int writeImage(Valley v, int[] octets) {
            int size = putTwo(octets, 0, day);
            for (int p = 0; p < v.people.count; p++) {
                size = putOne(octets, size, stays[p]);
                for (int t = 0; t < v.things.count; t++) {
                    size = putOne(octets, size, pointsOf(p, t));
                }
            }
            for (int t = 0; t < v.things.count; t++) {
                size = putOne(octets, size, lost[t]);
                size = putTwo(octets, size, gone[t]);
                for (int place = 0; place < v.places.count; place++) {
                    size = putTwo(octets, size, lying[place * MOST_THINGS + t]);
                }
            }
            return putOne(octets, size, checkOf(octets, size));
        }

        private static int putOne(int[] octets, int size, int value) {
            if (size >= 0 && size < octets.length) {
                octets[size] = value;
            }
            return size + 1;
        }

        private static int putTwo(int[] octets, int size, int value) {
            return putOne(octets, putOne(octets, size, value >> 8), value & 255);
        }

        private static int checkOf(int[] octets, int size) {
            int check = 211;
            for (int i = 0; i < size && i < octets.length; i++) {
                check = (3 * check + octets[i]) % 251;
            }
            return check;
        }

        /** Whether the tape is AN IMAGE of this VALLEY. */
        boolean isImage(Valley v, Tape tape) {
            int people = v.people.count;
            int things = v.things.count;
            int last = 2 + people * (1 + things) + things * (3 + 2 * v.places.count);
            if (tape.size != last + 1 || tape.at(last) != checkOf(tape.bytes, last) || tape.twoAt(0) > LAST_DAY) {
                return false;
            }
            int k = 2;
            for (int p = 0; p < people; p++) {
                if (tape.at(k) >= v.places.count || tape.isAbove(MOST_POINTS, k + 1, things)) {
                    return false;
                }
                k += 1 + things;
            }
            for (int t = 0; t < things; t++) {
                if (tape.at(k) >> people != 0 || tape.twoAt(k + 1) > MOST_GONE) {
                    return false;
                }
                k += 3;
                for (int place = 0; place < v.places.count; place++) {
                    if (tape.twoAt(k) > MOST_LYING) {
                        return false;
                    }
                    k += 2;
                }
            }
            return true;
        }

        /** Becomes what the tape tells, which is AN IMAGE of this VALLEY. */
        void readImage(Valley v, Tape tape) {
            day = tape.twoAt(0);
            int k = 2;
            for (int p = 0; p < v.people.count; p++) {
                stays[p] = tape.at(k);
                k++;
                for (int t = 0; t < v.things.count; t++) {
                    points[p * MOST_THINGS + t] = tape.at(k);
                    k++;
                }
            }
            for (int t = 0; t < v.things.count; t++) {
                lost[t] = tape.at(k);
                gone[t] = tape.twoAt(k + 1);
                k += 3;
                for (int place = 0; place < v.places.count; place++) {
                    lying[place * MOST_THINGS + t] = tape.twoAt(k);
                    k += 2;
                }
            }
        }
    }

    /** Works out SUMS and TESTS, by what is told of a THING. */
    static final class Machine {
        final int[] stack;
        final int[] told;
        final int[] his;
        int things;

        Machine() {
            stack = new int[MOST_STACKED];
            told = new int[WEIGHS - NO_STEP];
            his = new int[MOST_THINGS];
            things = 0;
        }

        void tell(int step, int value) {
            if (step <= WEIGHS && step > NO_STEP) {
                told[WEIGHS - step] = value;
            }
        }

        void turnTo(Valley v, Moment m, int which) {
            tell(WEIGHS, v.weights[which]);
            tell(HANGS, Integer.bitCount(v.hangs[which]));
            tell(KNOW, m.countKnowing(which));
            tell(DAY, m.day);
        }

        void learn(Moment m, int who, int things) {
            for (int t = 0; t < MOST_THINGS; t++) {
                his[t] = m.pointsOf(who, t);
            }
            this.things = things;
        }

        int run(int[] steps, int from, int to) {
            int top = 0;
            for (int i = Math.max(from, 0); i < to && i < steps.length; i++) {
                int step = steps[i];
                if (step >= 0 || step <= WEIGHS) {
                    if (top < MOST_STACKED) {
                        stack[top] = step >= 0 ? step : toldBy(step);
                        top++;
                    }
                } else if (step >= EITHER) {
                    if (top >= 2) {
                        top--;
                        stack[top - 1] = join(step, stack[top - 1], stack[top]);
                    }
                } else if (top >= 1) {
                    stack[top - 1] = step == POINTS_OF ? pointsOfNumber(stack[top - 1]) : 1 - stack[top - 1];
                }
            }
            return top > 0 ? stack[0] : 0;
        }

        private int toldBy(int step) {
            return step > NO_STEP ? told[WEIGHS - step] : 0;
        }

        private int pointsOfNumber(int number) {
            return number >= 0 && number < things && number < MOST_THINGS ? his[number] : 0;
        }

        private static int join(int step, int a, int b) {
            long value;
            switch (step) {
                case ADD:
                    value = (long) a + b;
                    break;
                case SUBTRACT:
                    value = (long) a - b;
                    break;
                case MULTIPLY:
                    value = (long) a * b;
                    break;
                case DIVIDE:
                    value = b == 0 ? 0 : Math.floorDiv(a, b);
                    break;
                case LESSER:
                    value = a < b ? a : b;
                    break;
                case GREATER:
                    value = a > b ? a : b;
                    break;
                case IS_BELOW:
                    value = a < b ? 1 : 0;
                    break;
                case IS_ABOVE:
                    value = a > b ? 1 : 0;
                    break;
                case IS_SAME:
                    value = a == b ? 1 : 0;
                    break;
                case BOTH:
                    value = a & b;
                    break;
                default:
                    value = a | b;
                    break;
            }
            return value > MOST_VALUE ? MOST_VALUE : value < -MOST_VALUE ? -MOST_VALUE : (int) value;
        }
    }

    /** What a NIGHT, saying, and catching do. */
    static final class Nature {
        final Machine machine;
        final int[] knew;
        int forgotten;
        int firstWho;
        int firstWhich;

        Nature(Machine machine) {
            this.machine = machine;
            knew = new int[MOST_PEOPLE];
        }

        /** A NIGHT in which nothing rises in the held places: how many were FORGOTTEN. */
        int passNight(Valley v, Moment m, int held) {
            for (int p = 0; p < v.people.count; p++) {
                knew[p] = m.knownBy(p);
            }
            dimKnowing(v, m, ALL_THINGS);
            forgotten = 0;
            for (int p = 0; p < v.people.count; p++) {
                for (int t = 0; t < v.things.count; t++) {
                    if ((knew[p] >> t & 1) != 0 && m.pointsOf(p, t) == 0) {
                        forget(v, m, p, t);
                    }
                }
            }
            for (int place = 0; place < v.places.count; place++) {
                if ((held >> place & 1) == 0) {
                    raise(v, m, place);
                }
            }
            m.day++;
            return forgotten;
        }

        /**
         * What a NIGHT makes of the points of some things; all they hang on must be among them. No
         * THING's points depend on those of things on which it does not hang.
         */
        void dimKnowing(Valley v, Moment m, int things) {
            for (int t = 0; t < v.things.count; t++) {
                if ((things >> t & 1) != 0 && v.from[FADE] != NONE) {
                    fadeThing(v, m, t);
                }
            }
            for (int p = 0; p < v.people.count; p++) {
                int known = m.knownBy(p);
                for (int t = 0; t < v.things.count; t++) {
                    if ((things >> t & 1) != 0 && (v.hangs[t] & ~known) != 0) {
                        m.points[p * MOST_THINGS + t] = 0;
                        known &= ~(1 << t);
                    }
                }
            }
        }

        private void fadeThing(Valley v, Moment m, int which) {
            machine.turnTo(v, m, which);
            for (int p = 0; p < v.people.count; p++) {
                int had = m.pointsOf(p, which);
                if (had > 0) {
                    machine.tell(POINTS, had);
                    int sum = machine.run(v.steps, v.from[FADE], v.to[FADE]);
                    m.points[p * MOST_THINGS + which] = within(sum, 0, MOST_POINTS);
                }
            }
        }

        private void forget(Valley v, Moment m, int who, int which) {
            if (forgotten == 0) {
                firstWho = who;
                firstWhich = which;
            }
            forgotten++;
            int spot = m.stays[who] * MOST_THINGS + which;
            m.lying[spot] = Math.min(MOST_LYING, m.lying[spot] + v.weights[which]);
            m.lost[which] |= 1 << who;
        }

        private void raise(Valley v, Moment m, int place) {
            for (int t = 0; t < v.things.count; t++) {
                int spot = place * MOST_THINGS + t;
                int lay = m.lying[spot];
                if (lay > 0) {
                    int rises = 1;
                    if (v.from[RISE] != NONE) {
                        machine.turnTo(v, m, t);
                        machine.tell(LIES, lay);
                        rises = within(machine.run(v.steps, v.from[RISE], v.to[RISE]), 0, lay);
                    }
                    m.lying[spot] = lay - rises;
                    m.gone[t] = Math.min(MOST_GONE, m.gone[t] + rises);
                }
            }
        }

        /** One who KNOWS it says it: how many others heard it. */
        int speak(Valley v, Moment m, int who, int which) {
            gain(v, m, who, which, SAY);
            int heard = 0;
            for (int p = 0; p < v.people.count; p++) {
                if (p != who && m.stays[p] == m.stays[who] && m.knowsAll(p, v.hangs[which])) {
                    heard++;
                    gain(v, m, p, which, HEAR);
                }
            }
            return heard;
        }

        private void gain(Valley v, Moment m, int who, int which, int sum) {
            int had = m.pointsOf(who, which);
            int gets = sum == SAY ? MOST_POINTS : had;
            if (v.from[sum] != NONE) {
                machine.turnTo(v, m, which);
                machine.tell(POINTS, had);
                gets = machine.run(v.steps, v.from[sum], v.to[sum]);
            }
            m.points[who * MOST_THINGS + which] = within(gets, had, MOST_POINTS);
        }

        boolean canCatch(Valley v, Moment m, int who, int which) {
            return m.lying[m.stays[who] * MOST_THINGS + which] > 0 && m.knowsAll(who, v.hangs[which]);
        }

        void catchThing(Valley v, Moment m, int who, int which) {
            int spot = m.stays[who] * MOST_THINGS + which;
            m.lying[spot] = Math.max(0, m.lying[spot] - v.weights[which]);
            int own = who * MOST_THINGS + which;
            m.points[own] = Math.max(m.points[own], v.catches);
        }
    }

    /** What is AHEAD, and what is best done about it. */
    static final class Ahead {
        final Nature nature;
        final Moment trial;
        final Moment other;
        final Moment spokenFirst;
        final Moment robbedFirst;
        final int[] far;
        int foundNights;
        int foundPlace;
        int foundThing;
        int foundCount;
        int foundBits;
        int gameWho;
        int gameWhich;
        int gameThings;
        int gameNights;

        Ahead(Nature nature) {
            this.nature = nature;
            trial = new Moment();
            other = new Moment();
            spokenFirst = new Moment();
            robbedFirst = new Moment();
            far = new int[MOST_PLACES];
        }

        private static int nightsAhead(Moment now) {
            return Math.min(MOST_AHEAD, LAST_DAY - now.day);
        }

        int pointsLater(Valley v, Moment now, int who, int which, int n) {
            int things = v.withRoots(1 << which);
            trial.copyKnowing(now);
            for (int i = 0; i < n; i++) {
                nature.dimKnowing(v, trial, things);
                trial.day++;
            }
            return trial.pointsOf(who, which);
        }

        boolean findForgotten(Valley v, Moment now) {
            int most = nightsAhead(now);
            trial.copy(now);
            for (int i = 1; i <= most; i++) {
                if (nature.passNight(v, trial, 0) > 0) {
                    foundNights = i;
                    return true;
                }
            }
            return false;
        }

        boolean findBreak(Valley v, Moment now) {
            int most = nightsAhead(now);
            trial.copy(now);
            for (int i = 0; i <= most; i++) {
                for (int place = 0; place < v.places.count; place++) {
                    if (trial.lyingIn(place) > v.breaks) {
                        foundNights = i;
                        foundPlace = place;
                        return true;
                    }
                }
                if (i < most) {
                    nature.passNight(v, trial, 0);
                }
            }
            return false;
        }

        /** The THINGS to say, as bits; NONE when it can't be. */
        int fewestToKeep(Valley v, Moment now, int who, int things, int n) {
            gameWho = who;
            gameThings = v.withRoots(things);
            gameNights = n;
            foundBits = NONE;
            if (now.knowsAll(who, gameThings)) {
                choose(v, now, 0, 0);
            }
            return foundBits;
        }

        /**
         * Chooses THING by THING whether it is said. How one fares depends on whether it and those on
         * which it hangs are said, and these are told ahead of it: if it is lost, no more need be chosen.
         */
        private void choose(Valley v, Moment now, int which, int said) {
            if (which >= v.things.count) {
                if (!isWorse(said)) {
                    foundBits = said;
                }
            } else if ((gameThings >> which & 1) == 0) {
                choose(v, now, which + 1, said);
            } else {
                int more = said | 1 << which;
                if (keepsBySaying(v, now, which, said)) {
                    choose(v, now, which + 1, said);
                }
                if (!isMore(more) && keepsBySaying(v, now, which, more)) {
                    choose(v, now, which + 1, more);
                }
            }
        }

        private boolean isMore(int said) {
            return foundBits != NONE && Integer.bitCount(said) > Integer.bitCount(foundBits);
        }

        private boolean isWorse(int said) {
            boolean same = foundBits != NONE && Integer.bitCount(said) == Integer.bitCount(foundBits);
            return isMore(said) || same && said > foundBits;
        }

        private boolean keepsBySaying(Valley v, Moment now, int which, int said) {
            int things = v.withRoots(1 << which);
            trial.copyKnowing(now);
            for (int i = 0; i < gameNights; i++) {
                for (int t = 0; t <= which; t++) {
                    if ((things & said & 1 << t) != 0 && trial.pointsOf(gameWho, t) > 0) {
                        nature.speak(v, trial, gameWho, t);
                    }
                }
                nature.dimKnowing(v, trial, things);
                trial.day++;
                if (trial.pointsOf(gameWho, which) == 0) {
                    return false;
                }
            }
            return true;
        }

        boolean findBest(Valley v, Moment now, int who, int n) {
            foundThing = NONE;
            foundCount = NONE;
            for (int t = 0; t < v.things.count; t++) {
                if (now.pointsOf(who, t) > 0) {
                    trial.copyKnowing(now);
                    nature.speak(v, trial, who, t);
                    for (int i = 0; i < n; i++) {
                        nature.dimKnowing(v, trial, ALL_THINGS);
                        trial.day++;
                    }
                    int count = Integer.bitCount(trial.knownBy(who));
                    if (count > foundCount) {
                        foundCount = count;
                        foundThing = t;
                    }
                }
            }
            return foundThing != NONE;
        }

        /** No PLACE's snow depends on another's, so all sets are told from all held and none held. */
        void findShovelled(Valley v, Moment now, int n, int places) {
            trial.copy(now);
            other.copy(now);
            for (int i = 0; i < n; i++) {
                nature.passNight(v, trial, 0);
                nature.passNight(v, other, (1 << MOST_PLACES) - 1);
            }
            foundBits = NONE;
            foundCount = NONE;
            for (int held = 0; held < 1 << v.places.count; held++) {
                if (Integer.bitCount(held) == places) {
                    int lying = 0;
                    for (int place = 0; place < v.places.count; place++) {
                        lying += (held >> place & 1) != 0 ? other.lyingIn(place) : trial.lyingIn(place);
                    }
                    if (lying > foundCount) {
                        foundCount = lying;
                        foundBits = held;
                    }
                }
            }
        }

        /** What a ROUTE takes (k NONE), or the k-th PLACE come to; NONE when there is none. */
        int routeStep(Valley v, Moment now, int from, int to, int k) {
            measure(v, now, to);
            if (far[from] >= FAR) {
                return NONE;
            }
            if (k == NONE) {
                return far[from];
            }
            int at = from;
            for (int i = 0; i < MOST_PLACES && at != to; i++) {
                at = nextOnRoute(v, now, at);
                if (at == NONE || i == k) {
                    return at;
                }
            }
            return NONE;
        }

        /** How far each PLACE is from the goal. */
        private void measure(Valley v, Moment now, int to) {
            for (int place = 0; place < MOST_PLACES; place++) {
                far[place] = place == to ? 0 : FAR;
            }
            for (int round = 0; round < v.places.count; round++) {
                for (int a = 0; a < v.places.count; a++) {
                    for (int b = 0; b < v.places.count; b++) {
                        far[a] = Math.min(far[a], farBy(v, now, a, b));
                    }
                }
            }
        }

        private int farBy(Valley v, Moment now, int a, int b) {
            int takes = v.ways[a * MOST_PLACES + b];
            return takes == 0 || far[b] >= FAR ? FAR : takes + now.lyingIn(b) + far[b];
        }

        private int nextOnRoute(Valley v, Moment now, int at) {
            for (int b = 0; b < v.places.count; b++) {
                if (farBy(v, now, at, b) == far[at]) {
                    return b;
                }
            }
            return NONE;
        }

        boolean holdsAgainst(Valley v, Moment now, int who, int which, int days) {
            gameWho = who;
            gameWhich = which;
            gameThings = v.withRoots(1 << which);
            return canHold(v, now, days);
        }

        /** Whether one can KNOW it days later, whatever the thief takes; two days at most. */
        private boolean canHold(Valley v, Moment m, int days) {
            if (days <= 0 || days > MOST_AGAINST) {
                return m.pointsOf(gameWho, gameWhich) > 0;
            }
            if (!m.knowsAll(gameWho, gameThings)) {
                return false;
            }
            Moment spoken = days == 1 ? trial : spokenFirst;
            for (int said = NONE; said < v.things.count; said++) {
                if (said == NONE || (gameThings >> said & 1) != 0) {
                    spoken.copyKnowing(m);
                    if (said != NONE) {
                        nature.speak(v, spoken, gameWho, said);
                    }
                    if (outlivesTheft(v, spoken, days)) {
                        return true;
                    }
                }
            }
            return false;
        }

        /** Taking from one THING that has no part in it is like taking from another such. */
        private boolean outlivesTheft(Valley v, Moment spoken, int days) {
            Moment robbed = days == 1 ? other : robbedFirst;
            boolean idle = false;
            for (int t = 0; t < v.things.count; t++) {
                boolean apart = (gameThings >> t & 1) == 0;
                if (!apart || !idle) {
                    idle = idle || apart;
                    robbed.copyKnowing(spoken);
                    int own = gameWho * MOST_THINGS + t;
                    robbed.points[own] = Math.max(0, robbed.points[own] - v.thief);
                    nature.dimKnowing(v, robbed, gameThings);
                    robbed.day++;
                    if (!canHold(v, robbed, days - 1)) {
                        return false;
                    }
                }
            }
            return true;
        }
    }
}
