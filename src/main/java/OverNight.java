/** A town where nothing lasts over night but what its law lets be; ../shared/DOC.md tells the whole. */
public final class OverNight {

  public static final int NONE = -1;

  private static final int TAPE_LIMIT = 800;
  private static final int SHORT_TEXT = 300;
  private static final int TRAY_LIMIT = 60;
  private static final int TRAYS = 4;
  private static final int MARK_LIMIT = 3;
  private static final int THING_LIMIT = 8;
  private static final int MAKING_LIMIT = 12;
  private static final int PERSON_LIMIT = 6;
  private static final int WANT_LIMIT = 8;
  private static final int CASE_LIMIT = 20;
  private static final int JOB_LIMIT = 24;
  private static final int DEPTH_LIMIT = 6;
  private static final int HOURS = 24;
  private static final int ALL_HOURS = (1 << HOURS) - 1;
  private static final int WEEK = 7;
  private static final int SETS = 1 << THING_LIMIT;
  private static final int LAST_DAY = 999;
  private static final int DAYS_AHEAD = 9;
  private static final int LIVES_LIMIT = 99;

  private int status;
  private long top;
  private long bottom = 1;
  private final Tray[] trays = new Tray[TRAYS];
  // The TOWN that is there is the one at [marks]; those ahead of it are what the MARKS keep.
  private final Town[] towns = new Town[MARK_LIMIT + 1];
  private int marks;
  // A text is read into a spare one, so that a FAULT leaves the old one as it was.
  private Town spareTown = new Town();
  private Law spareLaw = new Law();
  private Plan sparePlan = new Plan();
  private final Tokens tokens = new Tokens();
  private final Nights nights = new Nights();
  private final Soon soon = new Soon();
  private final Alone alone = new Alone();
  private final Deeds deeds = new Deeds();

  public OverNight() {
    for (int i = 0; i < trays.length; i++) {
      trays[i] = new Tray();
    }
    for (int i = 0; i < towns.length; i++) {
      towns[i] = new Town();
    }
  }

  public int status() {
    return status;
  }

  public long top() {
    return top;
  }

  public long bottom() {
    return bottom;
  }

  // ---- TRAYS.

  public boolean tray(int tray, int sort, int many) {
    if (!isTray(tray) || sort < 0 || sort > 3) {
      return refuse(1);
    }
    if (many > TRAY_LIMIT) {
      return refuse(5);
    }
    if (many < 0) {
      return refuse(6);
    }
    trays[tray].make(sort, many);
    return accept();
  }

  public boolean write(int tray, int place, long v) {
    if (!isTray(tray)) {
      return refuse(1);
    }
    if (trays[tray].isMissing()) {
      return refuse(3);
    }
    if (!trays[tray].has(place)) {
      return refuse(4);
    }
    trays[tray].put(place, v);
    return accept();
  }

  public long read(int tray, int place) {
    if (!isTray(tray)) {
      return fail(1);
    }
    if (trays[tray].isMissing()) {
      return fail(3);
    }
    if (!trays[tray].has(place)) {
      return fail(4);
    }
    status = 0;
    return trays[tray].number(place);
  }

  public boolean pour(int tray, int i, int to, int j, int many) {
    if (!isTray(tray) || !isTray(to)) {
      return refuse(1);
    }
    Tray from = trays[tray];
    Tray into = trays[to];
    if (from.isMissing() || into.isMissing()) {
      return refuse(3);
    }
    if (from.sort != into.sort) {
      return refuse(11);
    }
    if (many < 0) {
      return refuse(6);
    }
    if (!from.hasRun(i, many) || !into.hasRun(j, many)) {
      return refuse(4);
    }
    System.arraycopy(from.numbers, i, into.numbers, j, many);
    return accept();
  }

  // ---- texts.

  public int feed(int a, int b, int c, int d, int e) {
    if (tokens.taped > TAPE_LIMIT - 20) {
      return NONE;
    }
    tokens.tapeFour(a);
    tokens.tapeFour(b);
    tokens.tapeFour(c);
    tokens.tapeFour(d);
    tokens.tapeFour(e);
    return tokens.taped;
  }

  public int town(int n) {
    if (!isText(n, TAPE_LIMIT)) {
      return fail(5);
    }
    tokens.begin(n);
    if (!spareTown.build(tokens)) {
      return fail(10);
    }
    Town old = now();
    towns[marks] = spareTown;
    spareTown = old;
    return tell(now().things.count);
  }

  public int law(int n) {
    if (!isText(n, SHORT_TEXT)) {
      return fail(5);
    }
    tokens.begin(n);
    if (!spareLaw.build(tokens, now().things)) {
      return fail(10);
    }
    Law old = now().law;
    now().law = spareLaw;
    spareLaw = old;
    return tell(Integer.bitCount(now().law.ruled));
  }

  public int plan(int n) {
    if (!isText(n, SHORT_TEXT)) {
      return fail(5);
    }
    tokens.begin(n);
    if (!sparePlan.build(tokens, now())) {
      return fail(10);
    }
    Plan old = now().plan;
    now().plan = sparePlan;
    sparePlan = old;
    return tell(now().plan.jobs);
  }

  public int fault(int what) {
    if (what == 0) {
      return tokens.fault;
    }
    return what == 1 ? tokens.faultPlace : NONE;
  }

  public int many(int what) {
    switch (what) {
      case 0:
        return tell(now().things.count);
      case 1:
        return tell(now().makings.count);
      case 2:
        return tell(now().people.count);
      case 3:
        return tell(now().wants);
      case 4:
        return tell(now().plan.jobs);
      case 5:
        return tell(now().isAwake() ? 1 : 0);
      default:
        return fail(5);
    }
  }

  public int thing(int thing, int what) {
    if (!isThing(thing)) {
      return fail(2);
    }
    switch (what) {
      case 0:
        return tell(now().wear >> thing & 1);
      case 1:
        return tell(now().send >> thing & 1);
      case 2:
        return tell(now().law.ruled >> thing & 1);
      default:
        return fail(5);
    }
  }

  public int making(int making, int what) {
    if (making < 0 || making >= now().makings.count) {
      return fail(2);
    }
    switch (what) {
      case 0:
        return tell(now().gives[making]);
      case 1:
        return tell(now().hours[making]);
      case 2:
        return tell(now().hands[making]);
      case 3:
        return tell(now().of[making]);
      case 4:
        return tell(now().with[making]);
      default:
        return fail(5);
    }
  }

  public int awake(int person, int hour) {
    if (person < 0 || person >= now().people.count) {
      return fail(2);
    }
    if (hour < 0 || hour >= HOURS) {
      return fail(5);
    }
    return tell(now().awake[person] >> hour & 1);
  }

  public int want(int want, int what) {
    if (want < 0 || want >= now().wants) {
      return fail(2);
    }
    switch (what) {
      case 0:
        return tell(now().wantThing[want]);
      case 1:
        return tell(now().wantTime[want]);
      case 2:
        return tell(now().wantWorth[want]);
      case 3:
        return tell(now().eaten >> want & 1);
      default:
        return fail(5);
    }
  }

  // ---- NIGHTS, what can be.

  public int night(int set, int worn, int held, int sent, int day) {
    if (!isSet(set) || !isThingOrNone(worn) || !isThingOrNone(held) || !isThingOrNone(sent)) {
      return fail(2);
    }
    if (!isDay(day)) {
      return fail(5);
    }
    int awake = now().isAwake() ? set : 0;
    if (!isAmong(worn, set & now().wear) || !isAmong(held, awake) || !isAmong(sent, set & now().send)) {
      return fail(9);
    }
    nights.look(now(), set, day % WEEK);
    return tell(nights.left(worn, held, sent));
  }

  public int soonest(int thing, int set) {
    if (!isThing(thing) || !isSet(set)) {
      return fail(2);
    }
    soon.reckon(now(), set);
    if (soon.times[thing] > HOURS) {
      return fail(9);
    }
    return tell(soon.times[thing]);
  }

  public int bars(int thing, int set, int what) {
    if (!isThing(thing) || !isSet(set)) {
      return fail(2);
    }
    if (what < 0 || what > 1) {
      return fail(5);
    }
    soon.reckon(now(), set);
    int making = soon.firstMaking(thing);
    if (making == NONE) {
      return fail(8);
    }
    if (what == 0) {
      return tell(making);
    }
    int last = soon.lastNeed(making);
    return last == NONE ? fail(8) : tell(last);
  }

  public int labour(int wanted, int set) {
    if (!isSet(wanted) || !isSet(set)) {
      return fail(2);
    }
    int fewest = alone.fewestHours(now(), wanted, set);
    return fewest == NONE ? fail(8) : tell(fewest);
  }

  public int hands(int set) {
    if (!isSet(set)) {
      return fail(2);
    }
    soon.reckon(now(), 0);
    int fewest = soon.fewestHands(set);
    return fewest == NONE ? fail(9) : tell(fewest);
  }

  // ---- ALONE.

  public int day(int set, int time) {
    if (!isSet(set)) {
      return fail(2);
    }
    if (time < 0 || time > HOURS) {
      return fail(5);
    }
    alone.reckon(now(), nights, 1, 1, 0);
    alone.walk(set, time);
    return tell(alone.bestFrom(time, set));
  }

  public int days(int set, int n, int day) {
    if (!isSet(set)) {
      return fail(2);
    }
    if (!isDaysAhead(n) || !isDay(day)) {
      return fail(5);
    }
    alone.reckon(now(), nights, 1, n, day);
    alone.walk(set, 0);
    alone.chooseNight(nights, n, day);
    return tell(alone.bestFrom(0, set));
  }

  public int step(int k) {
    if (k < 0 || k >= alone.steps) {
      return fail(8);
    }
    return tell(alone.stepMaking[k]);
  }

  public int stepTime(int k) {
    if (k < 0 || k >= alone.steps) {
      return fail(8);
    }
    return tell(alone.stepStart[k]);
  }

  public int firstNight(int what) {
    if (what < 0 || what > 3) {
      return fail(5);
    }
    if (!alone.nightTold) {
      return fail(8);
    }
    return tell(alone.nightChoice[what]);
  }

  public int price(int thing, int time, int set) {
    if (!isThing(thing) || !isSet(set)) {
      return fail(2);
    }
    if (time < 0 || time > HOURS) {
      return fail(5);
    }
    alone.reckon(now(), nights, 1, 1, 0);
    int it = 1 << thing;
    return tell(alone.bestFrom(time, set | it) - alone.bestFrom(time, set & ~it));
  }

  public int kept(int thing, int n) {
    if (!isThing(thing)) {
      return fail(2);
    }
    if (!isDaysAhead(n)) {
      return fail(5);
    }
    alone.reckon(now(), nights, 1, n, 0);
    return tell(alone.bestFrom(0, 1 << thing) - alone.bestFrom(0, 0));
  }

  public int bestKept(int n) {
    if (!isDaysAhead(n)) {
      return fail(5);
    }
    int things = now().things.count;
    if (things == 0) {
      return fail(8);
    }
    alone.reckon(now(), nights, 1, n, 0);
    int first = 0;
    for (int k = 1; k < things; k++) {
      if (alone.bestFrom(0, 1 << k) > alone.bestFrom(0, 1 << first)) {
        first = k;
      }
    }
    return tell(first);
  }

  public int more(int thing, int n) {
    if (!isThing(thing)) {
      return fail(2);
    }
    if (!isDaysAhead(n)) {
      return fail(5);
    }
    alone.alwaysIn(1, 1 << thing);
    alone.reckon(now(), nights, 2, n, 0);
    return tell(alone.fromNothing[1] - alone.fromNothing[0]);
  }

  public int bestMore(int n) {
    if (!isDaysAhead(n)) {
      return fail(5);
    }
    int things = now().things.count;
    if (things == 0) {
      return fail(8);
    }
    for (int k = 0; k < things; k++) {
      alone.alwaysIn(1 + k, 1 << k);
    }
    alone.reckon(now(), nights, 1 + things, n, 0);
    int first = 0;
    for (int k = 1; k < things; k++) {
      if (alone.fromNothing[1 + k] > alone.fromNothing[1 + first]) {
        first = k;
      }
    }
    return tell(first);
  }

  // ---- who is awake, ships.

  public int shift(int hours) {
    if (hours < 0 || hours > ALL_HOURS) {
      return fail(5);
    }
    int people = now().people.count;
    int fewest = NONE;
    for (int set = 0; set < 1 << people; set++) {
      boolean fewer = fewest == NONE || Integer.bitCount(set) < Integer.bitCount(fewest);
      if (fewer && (hours & ~now().awakeAmong(set)) == 0) {
        fewest = set;
      }
    }
    return fewest == NONE ? fail(9) : tell(fewest);
  }

  public boolean west(int ahead, int up, int low) {
    if (!isPlaces(ahead) || up < 0 || up > 99 || low < 1 || low > 99 || up >= low) {
      return refuse(5);
    }
    tellFraction((long) ahead * low, low - up);
    return accept();
  }

  public boolean speed(int ahead, int n) {
    if (!isPlaces(ahead) || n < 1 || n > 9999) {
      return refuse(5);
    }
    tellFraction(Math.max(0, n - ahead), n);
    return accept();
  }

  public int way(int tray, int many, int ahead) {
    if (!isTray(tray)) {
      return fail(1);
    }
    Tray row = trays[tray];
    if (row.isMissing()) {
      return fail(3);
    }
    if (many < 1 || many > 30 || !isPlaces(ahead)) {
      return fail(5);
    }
    if (!row.hasRun(0, 2 * many)) {
      return fail(4);
    }
    if (!row.allWithin(2 * many, 0, 999)) {
      return fail(5);
    }
    long lead = ahead;
    for (int k = 0; k < many; k++) {
      lead = lead - row.number(2 * k) + row.number(2 * k + 1);
      if (lead <= 0) {
        return tell(k);
      }
    }
    return tell(NONE);
  }

  // ---- PLANS.

  public int judged(int what) {
    if (what < 0 || what > 2) {
      return fail(5);
    }
    deeds.judge(now(), nights);
    if (what == 0) {
      return tell(deeds.verdict);
    }
    if (what == 1) {
      return deeds.verdict == 0 ? fail(8) : tell(deeds.verdictJob);
    }
    return deeds.verdict == 6 ? tell(deeds.missingThing) : fail(8);
  }

  public int done(int set, int day) {
    if (!isSet(set)) {
      return fail(2);
    }
    if (!isDay(day)) {
      return fail(5);
    }
    if (!now().plan.taken) {
      return fail(8);
    }
    return tell(deeds.doDay(now(), nights, set, day));
  }

  public int there(int time) {
    if (time < 0 || time > HOURS + 1) {
      return fail(5);
    }
    if (!deeds.dayTold) {
      return fail(8);
    }
    return tell(deeds.dayThere[time]);
  }

  public int lives(int n) {
    if (n < 1 || n > LIVES_LIMIT) {
      return fail(5);
    }
    if (!now().plan.taken) {
      return fail(8);
    }
    return tell(deeds.doDays(now(), nights, n, NONE));
  }

  public int ill(int seed, int n) {
    if (seed < 0 || seed > 9999 || n < 1 || n > LIVES_LIMIT) {
      return fail(5);
    }
    if (!now().plan.taken) {
      return fail(8);
    }
    return tell(deeds.doDays(now(), nights, n, seed));
  }

  public int lived(int what) {
    if (what < 0 || what > 3) {
      return fail(5);
    }
    if (!deeds.daysTold) {
      return fail(8);
    }
    return tell(deeds.days[what]);
  }

  // ---- MARKS.

  public int mark() {
    if (marks >= MARK_LIMIT) {
      return fail(7);
    }
    towns[marks + 1].copy(now());
    marks++;
    return tell(marks);
  }

  public int back() {
    if (marks <= 0) {
      return fail(8);
    }
    marks--;
    return tell(marks);
  }

  // ---- what the calls share.

  private Town now() {
    return towns[marks];
  }

  private int fail(int why) {
    status = why;
    return NONE;
  }

  private int tell(int answer) {
    status = 0;
    return answer;
  }

  private boolean refuse(int why) {
    status = why;
    return false;
  }

  private boolean accept() {
    status = 0;
    return true;
  }

  private void tellFraction(long over, long under) {
    long a = over;
    long b = under;
    for (int i = 0; i < 64 && b != 0; i++) {
      long rest = a % b;
      a = b;
      b = rest;
    }
    if (a > 0) {
      top = over / a;
      bottom = under / a;
    }
  }

  private boolean isText(int n, int limit) {
    return n >= 0 && n <= tokens.taped && n <= limit;
  }

  private boolean isTray(int tray) {
    return tray >= 0 && tray < trays.length;
  }

  private boolean isThing(int thing) {
    return thing >= 0 && thing < now().things.count;
  }

  private boolean isThingOrNone(int thing) {
    return thing == NONE || isThing(thing);
  }

  private boolean isAmong(int thingOrNone, int set) {
    return thingOrNone == NONE || (set >> thingOrNone & 1) != 0;
  }

  private boolean isSet(int set) {
    return set >= 0 && set < now().sets();
  }

  private boolean isDay(int day) {
    return day >= 0 && day <= LAST_DAY;
  }

  private boolean isDaysAhead(int n) {
    return n >= 1 && n <= DAYS_AHEAD;
  }

  private boolean isPlaces(int ahead) {
    return ahead >= 1 && ahead <= HOURS;
  }

  /** A TRAY: the numbers are kept as they are after the cut to its sort. */
  private static final class Tray {
    int sort;
    private int length = NONE;
    final long[] numbers = new long[TRAY_LIMIT];

    boolean isMissing() {
      return length == NONE;
    }

    void make(int newSort, int newLength) {
      sort = newSort;
      length = newLength;
      for (int i = 0; i < numbers.length; i++) {
        numbers[i] = 0;
      }
    }

    boolean has(int place) {
      return place >= 0 && place < length;
    }

    /** Whether so many numbers (0 or more) stand from a place on; none do so behind the last place, too. */
    boolean hasRun(int place, int run) {
      return place >= 0 && place <= length - run;
    }

    boolean allWithin(int run, long low, long high) {
      for (int i = 0; i < run; i++) {
        if (number(i) < low || number(i) > high) {
          return false;
        }
      }
      return true;
    }

    long number(int place) {
      return has(place) ? numbers[place] : NONE;
    }

    void put(int place, long v) {
      if (has(place)) {
        numbers[place] = cut(v);
      }
    }

    private long cut(long v) {
      switch (sort) {
        case 0:
          return (byte) v;
        case 1:
          return (short) v;
        case 2:
          return (int) v;
        default:
          return v;
      }
    }
  }

  /** The tape, the TOKENS of the text that came of it, one ahead at a time, and the FAULT that ended the reading. */
  private static final class Tokens {
    static final int END = 0;
    static final int BAD = 1;
    static final int NUMBER = 2;
    static final int NAME = 3;
    static final int LONG_WORD = 4;
    // A SIGN's kind is its own byte; that of a word that no NAME may be is told by its place in RESERVED.
    static final int FIRST_RESERVED = 128;
    static final int THING = 128;
    static final int WEAR = 129;
    static final int SEND = 130;
    static final int MAKING = 131;
    static final int GIVES = 132;
    static final int HOURS_WORD = 133;
    static final int HANDS = 134;
    static final int OF = 135;
    static final int WITH = 136;
    static final int PERSON = 137;
    static final int FROM = 138;
    static final int TO = 139;
    static final int ILL = 140;
    static final int WANT = 141;
    static final int AT = 142;
    static final int WORTH = 143;
    static final int EATEN = 144;
    static final int STAYS = 145;
    static final int WORN = 146;
    static final int HELD = 147;
    static final int SENT = 148;
    static final int HERE = 149;
    static final int DAY = 150;
    static final int OR = 151;
    static final int AND = 152;
    static final int NOT = 153;
    static final int BY = 154;
    static final int HOLD = 155;
    private static final String RESERVED =
        "thing wear send making gives hours hands of with person from to ill want at worth eaten stays worn held sent here day or and not by hold";
    private static final String SIGNS = ";<>=()";
    private static final int NAME_LETTERS = 8;
    private static final int NUMBER_DIGITS = 4;

    private final byte[] tape = new byte[TAPE_LIMIT];
    int taped;
    private final long[] reserved = new long[28];
    // All TOKENS of the text, END behind the last; a NUMBER's value, a WORD's letters as a number.
    private final int[] kinds = new int[TAPE_LIMIT + 1];
    private final int[] places = new int[TAPE_LIMIT + 1];
    private final long[] values = new long[TAPE_LIMIT + 1];
    private int at;
    // NONE ahead of any text, 0 of one without a FAULT.
    int fault = NONE;
    int faultPlace = NONE;

    Tokens() {
      int k = 0;
      for (int i = 0; i < RESERVED.length() && k < reserved.length; i++) {
        if (RESERVED.charAt(i) == ' ') {
          k++;
        } else {
          reserved[k] = longer(reserved[k], RESERVED.charAt(i));
        }
      }
    }

    void tapeFour(int bytes) {
      for (int shift = 24; shift >= 0; shift -= 8) {
        if (taped < tape.length) {
          tape[taped] = (byte) (bytes >> shift);
          taped++;
        }
      }
    }

    /** Takes the first n bytes of the tape as the text, its first TOKEN as the one ahead; the tape is empty then. */
    void begin(int n) {
      int length = Math.min(n, taped);
      taped = 0;
      int count = 0;
      int place = 0;
      for (int i = 0; i < TAPE_LIMIT && place < length; i++) {
        if (isBlank(tape[place])) {
          place++;
        } else {
          places[count] = place;
          place = scan(count, place, length);
          count++;
        }
      }
      kinds[count] = END;
      places[count] = length;
      at = 0;
      fault = 0;
      faultPlace = NONE;
    }

    /** Finds what TOKEN begins at a place: where it ends. */
    private int scan(int k, int place, int length) {
      if (isLetter(tape[place])) {
        return scanWord(k, place, length);
      }
      if (isDigit(tape[place])) {
        return scanNumber(k, place, length);
      }
      kinds[k] = SIGNS.indexOf((char) (tape[place] & 255)) >= 0 ? tape[place] : BAD;
      return place + 1;
    }

    private int scanWord(int k, int place, int length) {
      int end = place;
      long word = 0;
      for (; end < length && isLetter(tape[end]); end++) {
        word = end - place < NAME_LETTERS ? longer(word, tape[end]) : 0;
      }
      values[k] = word;
      kinds[k] = end - place > NAME_LETTERS ? LONG_WORD : NAME;
      for (int i = 0; i < reserved.length; i++) {
        if (reserved[i] == word) {
          kinds[k] = FIRST_RESERVED + i;
        }
      }
      return end;
    }

    private int scanNumber(int k, int place, int length) {
      int end = place;
      int value = 0;
      for (; end < length && isDigit(tape[end]); end++) {
        value = end - place < NUMBER_DIGITS ? value * 10 + tape[end] - '0' : 0;
      }
      values[k] = value;
      kinds[k] = end - place > NUMBER_DIGITS ? BAD : NUMBER;
      return end;
    }

    /** Words of up to 8 letters are kept as numbers to the base of 27, which no two of them share. */
    private static long longer(long word, int letter) {
      return word * 27 + (letter - 'a' + 1);
    }

    private static boolean isBlank(int c) {
      return c == 10 || c == 32;
    }

    private static boolean isLetter(int c) {
      return c >= 'a' && c <= 'z';
    }

    private static boolean isDigit(int c) {
      return c >= '0' && c <= '9';
    }

    int kind() {
      return kinds[at];
    }

    long word() {
      return values[at];
    }

    void next() {
      if (kinds[at] != END && at < TAPE_LIMIT) {
        at++;
      }
    }

    /** The FAULT is at the TOKEN ahead; what begins no TOKEN is a FAULT of the least kind wherever it stands. */
    boolean refuse(int why) {
      fault = kinds[at] == BAD ? 1 : why;
      faultPlace = places[at];
      return false;
    }

    boolean expect(int wanted) {
      if (kinds[at] != wanted) {
        return refuse(2);
      }
      next();
      return true;
    }

    /** The NUMBER ahead; NONE, with its FAULT, if there is no such. */
    int number(int low, int high) {
      if (kinds[at] != NUMBER) {
        refuse(2);
        return NONE;
      }
      int value = (int) values[at];
      if (value < low || value > high) {
        refuse(4);
        return NONE;
      }
      next();
      return value;
    }

    /** Which of the NAMES told the one ahead is; NONE, with its FAULT, if none, or one of those had already. */
    int named(Names told, int had) {
      if (kinds[at] != NAME) {
        refuse(2);
        return NONE;
      }
      int k = told.find(values[at]);
      if (k == NONE) {
        refuse(3);
        return NONE;
      }
      if ((had >> k & 1) != 0) {
        refuse(5);
        return NONE;
      }
      next();
      return k;
    }

    /** The set of the NAMES told that stand in a row here, one at least; 0, with its FAULT, if it can't be. */
    int namedRow(Names told, int had) {
      int set = 0;
      for (int i = 0; i < TAPE_LIMIT && (i == 0 || kinds[at] == NAME); i++) {
        int k = named(told, had | set);
        if (k == NONE) {
          return 0;
        }
        set |= 1 << k;
      }
      return set;
    }
  }

  /** NAMES of one kind, numbered as they were told. */
  private static final class Names {
    private final int limit;
    private final long[] words = new long[MAKING_LIMIT];
    int count;

    Names(int limit) {
      this.limit = Math.min(limit, MAKING_LIMIT);
    }

    boolean isFull() {
      return count >= limit;
    }

    int find(long word) {
      for (int k = 0; k < count; k++) {
        if (words[k] == word) {
          return k;
        }
      }
      return NONE;
    }

    void add(long word) {
      if (!isFull()) {
        words[count] = word;
        count++;
      }
    }

    void copy(Names from) {
      count = from.count;
      System.arraycopy(from.words, 0, words, 0, words.length);
    }
  }

  /** A TOWN with its LAW and PLAN. Sets are bits: 1 for number 0, 2 for number 1 .. */
  private static final class Town {
    final Names things = new Names(THING_LIMIT);
    int wear;
    int send;
    final Names makings = new Names(MAKING_LIMIT);
    final int[] gives = new int[MAKING_LIMIT];
    final int[] hours = new int[MAKING_LIMIT];
    final int[] hands = new int[MAKING_LIMIT];
    final int[] of = new int[MAKING_LIMIT];
    final int[] with = new int[MAKING_LIMIT];
    final Names people = new Names(PERSON_LIMIT);
    final int[] awake = new int[PERSON_LIMIT];
    final int[] illness = new int[PERSON_LIMIT];
    int wants;
    final int[] wantThing = new int[WANT_LIMIT];
    final int[] wantTime = new int[WANT_LIMIT];
    final int[] wantWorth = new int[WANT_LIMIT];
    int eaten;
    // The WANTS as they come by time, and by time how many of these come ahead of it.
    final int[] wantOrder = new int[WANT_LIMIT];
    final int[] wantsAhead = new int[HOURS + 2];
    Law law = new Law();
    Plan plan = new Plan();

    boolean build(Tokens t) {
      clear();
      for (int i = 0; i < TAPE_LIMIT && t.kind() != Tokens.END; i++) {
        if (!buildPart(t)) {
          return false;
        }
      }
      orderWants();
      return true;
    }

    private void clear() {
      things.count = 0;
      wear = 0;
      send = 0;
      makings.count = 0;
      people.count = 0;
      wants = 0;
      eaten = 0;
      law.clear();
      plan.clear();
    }

    private boolean buildPart(Tokens t) {
      switch (t.kind()) {
        case Tokens.THING:
          return buildThing(t);
        case Tokens.MAKING:
          return buildMaking(t);
        case Tokens.PERSON:
          return buildPerson(t);
        case Tokens.WANT:
          return buildWant(t);
        default:
          return t.refuse(2);
      }
    }

    private boolean buildThing(Tokens t) {
      int bit = 1 << things.count;
      if (!buildName(t, things)) {
        return false;
      }
      if (t.kind() == Tokens.WEAR) {
        wear |= bit;
        t.next();
      }
      if (t.kind() == Tokens.SEND) {
        send |= bit;
        t.next();
      }
      return t.expect(';');
    }

    private boolean buildMaking(Tokens t) {
      int m = makings.count;
      if (!buildName(t, makings) || !t.expect(Tokens.GIVES)) {
        return false;
      }
      gives[m] = t.named(things, 0);
      if (gives[m] == NONE || !t.expect(Tokens.HOURS_WORD)) {
        return false;
      }
      hours[m] = t.number(1, HOURS);
      if (hours[m] == NONE || !t.expect(Tokens.HANDS)) {
        return false;
      }
      hands[m] = t.number(1, 3);
      if (hands[m] == NONE) {
        return false;
      }
      of[m] = 0;
      with[m] = 0;
      if (t.kind() == Tokens.OF) {
        t.next();
        of[m] = t.namedRow(things, 0);
        if (of[m] == 0) {
          return false;
        }
      }
      if (t.kind() == Tokens.WITH) {
        t.next();
        with[m] = t.namedRow(things, of[m]);
        if (with[m] == 0) {
          return false;
        }
      }
      return t.expect(';');
    }

    private boolean buildPerson(Tokens t) {
      int p = people.count;
      if (!buildName(t, people) || !t.expect(Tokens.FROM)) {
        return false;
      }
      int from = t.number(0, HOURS);
      if (from == NONE || !t.expect(Tokens.TO)) {
        return false;
      }
      int to = t.number(0, HOURS);
      if (to == NONE) {
        return false;
      }
      awake[p] = hoursBetween(from, to);
      illness[p] = 0;
      if (t.kind() == Tokens.ILL) {
        t.next();
        illness[p] = t.number(0, 16);
        if (illness[p] == NONE) {
          return false;
        }
      }
      return t.expect(';');
    }

    private boolean buildWant(Tokens t) {
      int w = wants;
      if (w >= WANT_LIMIT) {
        return t.refuse(6);
      }
      wants++;
      t.next();
      wantThing[w] = t.named(things, 0);
      if (wantThing[w] == NONE || !t.expect(Tokens.AT)) {
        return false;
      }
      wantTime[w] = t.number(0, HOURS);
      if (wantTime[w] == NONE || !t.expect(Tokens.WORTH)) {
        return false;
      }
      wantWorth[w] = t.number(1, 999);
      if (wantWorth[w] == NONE) {
        return false;
      }
      if (t.kind() == Tokens.EATEN) {
        eaten |= 1 << w;
        t.next();
      }
      return t.expect(';');
    }

    /** The first WORD of a PART and its new NAME. */
    private boolean buildName(Tokens t, Names names) {
      if (names.isFull()) {
        return t.refuse(6);
      }
      t.next();
      if (t.kind() != Tokens.NAME) {
        return t.refuse(2);
      }
      if (things.find(t.word()) != NONE || makings.find(t.word()) != NONE || people.find(t.word()) != NONE) {
        return t.refuse(3);
      }
      names.add(t.word());
      t.next();
      return true;
    }

    private void orderWants() {
      int ordered = 0;
      for (int time = 0; time <= HOURS; time++) {
        wantsAhead[time] = ordered;
        for (int w = 0; w < wants; w++) {
          if (wantTime[w] == time) {
            wantOrder[ordered] = w;
            ordered++;
          }
        }
      }
      wantsAhead[HOURS + 1] = ordered;
    }

    private static int hoursBetween(int from, int to) {
      int set = 0;
      for (int h = 0; h < HOURS; h++) {
        boolean straight = from <= h && h < to;
        boolean round = to < from && (from <= h || h < to);
        if (from == to || straight || round) {
          set |= 1 << h;
        }
      }
      return set;
    }

    int sets() {
      return 1 << things.count;
    }

    int needs(int m) {
      return of[m] | with[m];
    }

    /** Whether a WANT comes from a time on up to another one, that one no more. */
    boolean isAsked(int from, int to) {
      return wantsAhead[to] > wantsAhead[from];
    }

    boolean isAwake() {
      int overStroke = 1 << (HOURS - 1) | 1;
      for (int p = 0; p < people.count; p++) {
        if ((awake[p] & overStroke) == overStroke) {
          return true;
        }
      }
      return false;
    }

    /** The HOURS in which one at least of a set of PEOPLE is AWAKE. */
    int awakeAmong(int set) {
      int some = 0;
      for (int p = 0; p < people.count; p++) {
        if ((set >> p & 1) != 0) {
          some |= awake[p];
        }
      }
      return some;
    }

    void copy(Town from) {
      things.copy(from.things);
      wear = from.wear;
      send = from.send;
      makings.copy(from.makings);
      System.arraycopy(from.gives, 0, gives, 0, gives.length);
      System.arraycopy(from.hours, 0, hours, 0, hours.length);
      System.arraycopy(from.hands, 0, hands, 0, hands.length);
      System.arraycopy(from.of, 0, of, 0, of.length);
      System.arraycopy(from.with, 0, with, 0, with.length);
      people.copy(from.people);
      System.arraycopy(from.awake, 0, awake, 0, awake.length);
      System.arraycopy(from.illness, 0, illness, 0, illness.length);
      wants = from.wants;
      System.arraycopy(from.wantThing, 0, wantThing, 0, wantThing.length);
      System.arraycopy(from.wantTime, 0, wantTime, 0, wantTime.length);
      System.arraycopy(from.wantWorth, 0, wantWorth, 0, wantWorth.length);
      eaten = from.eaten;
      System.arraycopy(from.wantOrder, 0, wantOrder, 0, wantOrder.length);
      System.arraycopy(from.wantsAhead, 0, wantsAhead, 0, wantsAhead.length);
      law.copy(from.law);
      plan.copy(from.plan);
    }
  }

  /** The LAW: for each THING that has one a row of codes, each what it joins ahead of it. */
  private static final class Law {
    static final int WORN = 0;
    static final int HELD = 1;
    static final int SENT = 2;
    static final int HERE = 3;
    static final int DAY = 4;
    static final int NOT = 5;
    static final int AND = 6;
    static final int OR = 7;

    int ruled;
    final int[] from = new int[THING_LIMIT];
    final int[] to = new int[THING_LIMIT];
    // Each code comes of a TOKEN of its own, so there are fewer than bytes in the text.
    final int[] codes = new int[SHORT_TEXT];
    private int length;
    private int cases;

    void clear() {
      ruled = 0;
      length = 0;
      cases = 0;
    }

    boolean build(Tokens t, Names things) {
      clear();
      for (int i = 0; i < SHORT_TEXT && t.kind() != Tokens.END; i++) {
        int k = t.named(things, ruled);
        if (k == NONE || !t.expect(Tokens.STAYS)) {
          return false;
        }
        ruled |= 1 << k;
        from[k] = length;
        if (!buildEither(t, things, 0) || !t.expect(';')) {
          return false;
        }
        to[k] = length;
      }
      return true;
    }

    /** Reads an EITHER within so many of not and brackets; "and" is joined ahead of "or". */
    private boolean buildEither(Tokens t, Names things, int within) {
      boolean or = false;
      boolean and = false;
      for (int i = 0; i < SHORT_TEXT; i++) {
        if (!buildOne(t, things, within)) {
          return false;
        }
        if (and) {
          add(AND, 0);
        }
        and = t.kind() == Tokens.AND;
        if (!and) {
          if (or) {
            add(OR, 0);
          }
          or = t.kind() == Tokens.OR;
        }
        if (!and && !or) {
          return true;
        }
        t.next();
      }
      return true;
    }

    private boolean buildOne(Tokens t, Names things, int within) {
      int depth = within;
      for (; depth < DEPTH_LIMIT && t.kind() == Tokens.NOT; depth++) {
        t.next();
      }
      boolean tooDeep = depth >= DEPTH_LIMIT;
      if (t.kind() == '(' && !tooDeep) {
        t.next();
        if (!buildEither(t, things, depth + 1) || !t.expect(')')) {
          return false;
        }
      } else if (t.kind() == '(' || t.kind() == Tokens.NOT) {
        return t.refuse(7);
      } else if (!buildCase(t, things, tooDeep)) {
        return false;
      }
      for (int i = within; i < depth; i++) {
        add(NOT, 0);
      }
      return true;
    }

    private boolean buildCase(Tokens t, Names things, boolean tooDeep) {
      int kind = t.kind();
      boolean plain = kind == Tokens.WORN || kind == Tokens.HELD || kind == Tokens.SENT;
      if (!plain && kind != Tokens.HERE && kind != Tokens.DAY) {
        return t.refuse(2);
      }
      if (cases >= CASE_LIMIT) {
        return t.refuse(6);
      }
      if (tooDeep) {
        return t.refuse(7);
      }
      cases++;
      t.next();
      if (plain) {
        add(kind - Tokens.WORN, 0);
        return true;
      }
      return kind == Tokens.HERE ? buildHere(t, things) : buildDay(t);
    }

    private boolean buildHere(Tokens t, Names things) {
      int k = t.named(things, 0);
      if (k == NONE) {
        return false;
      }
      add(HERE, 1 << k);
      return true;
    }

    private boolean buildDay(Tokens t) {
      int compares = t.kind();
      if (compares != '<' && compares != '>' && compares != '=') {
        return t.refuse(2);
      }
      t.next();
      int number = t.number(0, WEEK - 1);
      if (number == NONE) {
        return false;
      }
      int rests = 0;
      for (int rest = 0; rest < WEEK; rest++) {
        boolean so = compares == '<' ? rest < number : compares == '>' ? rest > number : rest == number;
        if (so) {
          rests |= 1 << rest;
        }
      }
      add(DAY, rests);
      return true;
    }

    /** A code is what it is, and with it a set of one byte: the THING that is to be here, the DAYS' rests. */
    private void add(int what, int set) {
      if (length < codes.length) {
        codes[length] = what << 8 | set;
        length++;
      }
    }

    void copy(Law other) {
      ruled = other.ruled;
      length = other.length;
      cases = other.cases;
      System.arraycopy(other.from, 0, from, 0, from.length);
      System.arraycopy(other.to, 0, to, 0, to.length);
      System.arraycopy(other.codes, 0, codes, 0, codes.length);
    }
  }

  /** The PLAN's JOBS as they stand; an empty text is a PLAN, too. */
  private static final class Plan {
    static final int MAKE = 0;
    static final int WEAR = 1;
    static final int HOLD = 2;
    static final int SEND = 3;

    boolean taken;
    int jobs;
    final int[] kind = new int[JOB_LIMIT];
    final int[] start = new int[JOB_LIMIT];
    final int[] what = new int[JOB_LIMIT];
    final int[] who = new int[JOB_LIMIT];

    void clear() {
      taken = false;
      jobs = 0;
    }

    boolean build(Tokens t, Town town) {
      clear();
      for (int i = 0; i < SHORT_TEXT && t.kind() != Tokens.END; i++) {
        if (!buildJob(t, town)) {
          return false;
        }
      }
      taken = true;
      return true;
    }

    private boolean buildJob(Tokens t, Town town) {
      int how = kindOf(t.kind());
      if (how == NONE) {
        return t.refuse(2);
      }
      if (how != MAKE && tells(how)) {
        return t.refuse(5);
      }
      if (jobs >= JOB_LIMIT) {
        return t.refuse(6);
      }
      int j = jobs;
      jobs++;
      kind[j] = how;
      start[j] = HOURS;
      who[j] = 0;
      t.next();
      if (how == MAKE) {
        return buildMake(t, town, j);
      }
      what[j] = t.named(town.things, 0);
      return what[j] != NONE && t.expect(';');
    }

    private boolean buildMake(Tokens t, Town town, int j) {
      start[j] = t.number(0, HOURS - 1);
      if (start[j] == NONE) {
        return false;
      }
      what[j] = t.named(town.makings, 0);
      if (what[j] == NONE || !t.expect(Tokens.BY)) {
        return false;
      }
      who[j] = t.namedRow(town.people, 0);
      return who[j] != 0 && t.expect(';');
    }

    private static int kindOf(int token) {
      switch (token) {
        case Tokens.AT:
          return MAKE;
        case Tokens.WEAR:
          return WEAR;
        case Tokens.HOLD:
          return HOLD;
        case Tokens.SEND:
          return SEND;
        default:
          return NONE;
      }
    }

    private boolean tells(int how) {
      for (int j = 0; j < jobs; j++) {
        if (kind[j] == how) {
          return true;
        }
      }
      return false;
    }

    void copy(Plan from) {
      taken = from.taken;
      jobs = from.jobs;
      System.arraycopy(from.kind, 0, kind, 0, kind.length);
      System.arraycopy(from.start, 0, start, 0, start.length);
      System.arraycopy(from.what, 0, what, 0, what.length);
      System.arraycopy(from.who, 0, who, 0, who.length);
    }
  }

  /** What is there, and what was had of it: the WANTS of a time are served in their order. */
  private static final class Shelf {
    int set;
    int worth;
    int had;

    void begin(int newSet) {
      set = newSet;
      worth = 0;
      had = 0;
    }

    /** The WANTS of the times from one on up to another one, that one no more. */
    void serve(Town town, int from, int to) {
      for (int i = town.wantsAhead[from]; i < town.wantsAhead[to]; i++) {
        int w = town.wantOrder[i];
        int bit = 1 << town.wantThing[w];
        if ((set & bit) != 0) {
          worth += town.wantWorth[w];
          had++;
          if ((town.eaten >> w & 1) != 0) {
            set &= ~bit;
          }
        }
      }
    }
  }

  /** NIGHTS: what stays of a set, by what is worn, held, sent. */
  private static final class Nights {
    private static final int AS_WORN = 1;
    private static final int AS_HELD = 2;
    private static final int AS_SENT = 4;
    // All eight ways in which a THING can be worn, held, sent or not are asked at once, a bit for each.
    private static final int ALL_WAYS = 0xFF;
    private static final int WORN_WAYS = 0xAA;
    private static final int HELD_WAYS = 0xCC;
    private static final int SENT_WAYS = 0xF0;
    private static final int CHOICES = (THING_LIMIT + 1) * (THING_LIMIT + 1) * (THING_LIMIT + 1);

    private int things;
    private final int[] stayWays = new int[THING_LIMIT];
    // What stays if nothing is worn, held, sent.
    private int plain;
    // A LAW leaves at most two open at each of six levels, and the one at hand.
    private final int[] open = new int[2 * DEPTH_LIMIT + 1];
    int choices;
    final int[] worn = new int[CHOICES];
    final int[] held = new int[CHOICES];
    final int[] sent = new int[CHOICES];
    final int[] stays = new int[CHOICES];

    /** Learns for each THING of a set the ways in which it stays in a NIGHT of a DAY with this rest by 7. */
    void look(Town town, int set, int rest) {
      things = town.things.count;
      plain = 0;
      for (int k = 0; k < things; k++) {
        boolean asked = (set & town.law.ruled & 1 << k) != 0;
        stayWays[k] = asked ? ways(town.law, k, set, rest) : 0;
        plain |= (stayWays[k] & 1) << k;
      }
    }

    private int ways(Law law, int thing, int set, int rest) {
      int depth = 0;
      for (int i = law.from[thing]; i < law.to[thing]; i++) {
        int what = law.codes[i] >> 8;
        if (what == Law.NOT && depth > 0) {
          open[depth - 1] ^= ALL_WAYS;
        } else if (what == Law.AND && depth > 1) {
          depth--;
          open[depth - 1] &= open[depth];
        } else if (what == Law.OR && depth > 1) {
          depth--;
          open[depth - 1] |= open[depth];
        } else if (what < Law.NOT && depth < open.length) {
          open[depth] = caseWays(what, law.codes[i] & 255, set, rest);
          depth++;
        }
      }
      return open[0];
    }

    private static int caseWays(int what, int given, int set, int rest) {
      switch (what) {
        case Law.WORN:
          return WORN_WAYS;
        case Law.HELD:
          return HELD_WAYS;
        case Law.SENT:
          return SENT_WAYS;
        case Law.HERE:
          return (given & set) != 0 ? ALL_WAYS : 0;
        default:
          return (given >> rest & 1) != 0 ? ALL_WAYS : 0;
      }
    }

    /** What STAYS of the set looked at. */
    int left(int wornThing, int heldThing, int sentThing) {
      int left = plain;
      left = chosen(left, wornThing, wornThing, heldThing, sentThing);
      left = chosen(left, heldThing, wornThing, heldThing, sentThing);
      return chosen(left, sentThing, wornThing, heldThing, sentThing);
    }

    /** Settles whether one that is worn, held or sent, perhaps several of these, stays. */
    private int chosen(int left, int thing, int wornThing, int heldThing, int sentThing) {
      if (thing < 0 || thing >= things) {
        return left;
      }
      int way = thing == wornThing ? AS_WORN : 0;
      way |= thing == heldThing ? AS_HELD : 0;
      way |= thing == sentThing ? AS_SENT : 0;
      return (stayWays[thing] >> way & 1) != 0 ? left | 1 << thing : left & ~(1 << thing);
    }

    /**
     * All that can be chosen for the set looked at, first by worn, then held, then sent. A THING that stays alike
     * worn and not worn is not listed as worn: NONE, ahead of it, comes to as much.
     */
    void list(Town town) {
      int mayWear = mattering(AS_WORN, ALL_WAYS - WORN_WAYS) & town.wear;
      int mayHold = town.isAwake() ? mattering(AS_HELD, ALL_WAYS - HELD_WAYS) : 0;
      int maySend = mattering(AS_SENT, ALL_WAYS - SENT_WAYS) & town.send;
      choices = 0;
      for (int w = NONE; w < things; w++) {
        for (int h = NONE; h < things && may(w, mayWear); h++) {
          for (int s = NONE; s < things && may(h, mayHold); s++) {
            if (may(s, maySend)) {
              add(w, h, s);
            }
          }
        }
      }
    }

    private int mattering(int as, int waysWithout) {
      int set = 0;
      for (int k = 0; k < things; k++) {
        if (((stayWays[k] >> as ^ stayWays[k]) & waysWithout) != 0) {
          set |= 1 << k;
        }
      }
      return set;
    }

    private static boolean may(int thingOrNone, int set) {
      return thingOrNone == NONE || (set >> thingOrNone & 1) != 0;
    }

    private void add(int w, int h, int s) {
      if (choices < CHOICES) {
        worn[choices] = w;
        held[choices] = h;
        sent[choices] = s;
        stays[choices] = left(w, h, s);
        choices++;
      }
    }
  }

  /** SOONEST from a set on, and what hangs on it. */
  private static final class Soon {
    private static final int NEVER = 1000000;

    final int[] times = new int[THING_LIMIT];
    private Town town;

    void reckon(Town newTown, int set) {
      town = newTown;
      for (int k = 0; k < times.length; k++) {
        times[k] = (set >> k & 1) != 0 ? 0 : NEVER;
      }
      // The soonest way to a THING needs no THING twice, so as many rounds as THINGS settle all.
      for (int round = 0; round < town.things.count; round++) {
        for (int m = 0; m < town.makings.count; m++) {
          int given = town.gives[m];
          times[given] = Math.min(times[given], timeBy(m));
        }
      }
    }

    private int timeBy(int m) {
      int last = 0;
      for (int k = 0; k < town.things.count; k++) {
        if ((town.needs(m) >> k & 1) != 0) {
          last = Math.max(last, times[k]);
        }
      }
      return Math.min(NEVER, last + town.hours[m]);
    }

    /** The first MAKING by which a THING is soonest; NONE if it is there, or can never be. */
    int firstMaking(int thing) {
      for (int m = 0; m < town.makings.count; m++) {
        if (town.gives[m] == thing && times[thing] < NEVER && timeBy(m) == times[thing]) {
          return m;
        }
      }
      return NONE;
    }

    /** Of what a MAKING needs the first THING that is there last; NONE if it needs none. */
    int lastNeed(int m) {
      int last = NONE;
      for (int k = 0; k < town.things.count; k++) {
        boolean needed = (town.needs(m) >> k & 1) != 0;
        if (needed && (last == NONE || times[k] > times[last])) {
          last = k;
        }
      }
      return last;
    }

    /** FEWEST HANDS of a set, by what was reckoned from nothing on; NONE if one of it can't be had. */
    int fewestHands(int set) {
      int most = 0;
      int sum = 0;
      int all = allNeeded(set);
      for (int k = 0; k < town.things.count; k++) {
        if ((all >> k & 1) != 0) {
          int m = firstMaking(k);
          if (m == NONE || times[k] > HOURS) {
            return NONE;
          }
          sum += town.hours[m] * town.hands[m];
          most = Math.max(most, town.hands[m]);
        }
      }
      return Math.max(most, (sum + HOURS - 1) / HOURS);
    }

    private int allNeeded(int set) {
      int all = set;
      for (int round = 0; round < town.things.count; round++) {
        for (int k = 0; k < town.things.count; k++) {
          int m = (all >> k & 1) != 0 ? firstMaking(k) : NONE;
          if (m != NONE) {
            all |= town.needs(m);
          }
        }
      }
      return all;
    }
  }

  /** What one pair of hands can do, ALONE. */
  private static final class Alone {
    private static final int WORLDS = THING_LIMIT + 1;

    private Town town;
    // The most WORTH from a time and a set on, in the DAY reckoned last.
    private final int[] best = new int[(HOURS + 1) * SETS];
    // By world and set: what the DAYS behind come to, as they begin, and as the DAY at hand ends.
    private final int[] mornings = new int[WORLDS * SETS];
    private final int[] evenings = new int[WORLDS * SETS];
    // World 0 is the town as it is; in each other one something more always STAYS.
    private final int[] always = new int[WORLDS];
    final int[] fromNothing = new int[WORLDS];
    private final Shelf shelf = new Shelf();
    int steps;
    final int[] stepMaking = new int[HOURS];
    final int[] stepStart = new int[HOURS];
    // What is there ahead of the NIGHT of the DAY that was walked.
    private int ahead;
    boolean nightTold;
    final int[] nightChoice = new int[4];
    private final int[] labour = new int[SETS];
    private final boolean[] settled = new boolean[SETS];

    void alwaysIn(int world, int set) {
      if (world > 0 && world < WORLDS) {
        always[world] = set;
      }
    }

    int bestFrom(int time, int set) {
      return best[time * SETS + set];
    }

    /** BEST of n DAYS from a DAY on, for each set, in so many worlds. */
    void reckon(Town newTown, Nights nights, int worlds, int n, int day) {
      town = newTown;
      for (int i = 0; i < worlds * SETS; i++) {
        evenings[i] = 0;
      }
      for (int d = n - 1; d >= 0; d--) {
        if (d < n - 1) {
          reckonNight(nights, worlds, (day + d) % WEEK);
        }
        for (int world = 0; world < worlds; world++) {
          reckonDay(world);
          fromNothing[world] = best[0];
          // The mornings behind the first NIGHT are left as they are: that NIGHT is told by them.
          if (d > 0) {
            System.arraycopy(best, 0, mornings, world * SETS, SETS);
          }
        }
      }
    }

    private void reckonNight(Nights nights, int worlds, int rest) {
      for (int set = 0; set < town.sets(); set++) {
        nights.look(town, set, rest);
        nights.list(town);
        for (int world = 0; world < worlds; world++) {
          int most = 0;
          for (int c = 0; c < nights.choices; c++) {
            int left = nights.stays[c] | always[world] & set;
            most = Math.max(most, mornings[world * SETS + left]);
          }
          evenings[world * SETS + set] = most;
        }
      }
    }

    private void reckonDay(int world) {
      System.arraycopy(evenings, world * SETS, best, HOURS * SETS, SETS);
      serveAll(HOURS);
      for (int time = HOURS - 1; time >= 0; time--) {
        System.arraycopy(best, (time + 1) * SETS, best, time * SETS, SETS);
        for (int m = 0; m < town.makings.count; m++) {
          if (canBegin(m, time)) {
            beginAll(m, time);
          }
        }
        serveAll(time);
      }
    }

    /** Raises what it comes to at a time, for each set with which a MAKING can begin then. */
    private void beginAll(int m, int time) {
      int needs = town.needs(m);
      int end = time + town.hours[m];
      boolean asked = town.isAsked(time + 1, end);
      for (int set = needs; set < town.sets(); set = set + 1 | needs) {
        // Most makings run past no WANT: they are spared the shelf.
        int worth = asked ? begun(m, time, set) : best[end * SETS + made(m, set)];
        if (worth > best[time * SETS + set]) {
          best[time * SETS + set] = worth;
        }
      }
    }

    /** What WANTS leave is a lesser set or the same: greater ones go first, as they look at what is not served yet. */
    private void serveAll(int time) {
      boolean asked = town.isAsked(time, time + 1);
      for (int set = town.sets() - 1; set >= 0 && asked; set--) {
        shelf.begin(set);
        shelf.serve(town, time, time + 1);
        best[time * SETS + set] = shelf.worth + best[time * SETS + shelf.set];
      }
    }

    private int made(int m, int set) {
      return set & ~town.of[m] | 1 << town.gives[m];
    }

    private boolean canBegin(int m, int time) {
      return town.hands[m] == 1 && time + town.hours[m] <= HOURS;
    }

    /** What it comes to if a MAKING begins; NONE if something is not there. */
    private int begun(int m, int time, int set) {
      if ((town.needs(m) & ~set) != 0) {
        return NONE;
      }
      shelf.begin(set);
      make(m, time);
      return shelf.worth + best[(time + town.hours[m]) * SETS + shelf.set];
    }

    /** Takes the shelf on till a MAKING has given: WANTS between find neither what is used up nor what comes. */
    private void make(int m, int time) {
      shelf.set &= ~town.of[m];
      shelf.serve(town, time + 1, time + town.hours[m]);
      shelf.set |= 1 << town.gives[m];
    }

    /** Keeps the STEPS of the DAY reckoned last, and ends with what is there ahead of its NIGHT. */
    void walk(int set, int from) {
      int there = set;
      int time = from;
      steps = 0;
      for (int i = 0; i < HOURS && time < HOURS; i++) {
        shelf.begin(there);
        shelf.serve(town, time, time + 1);
        there = shelf.set;
        int m = firstBest(time, there);
        stepMaking[i] = m;
        stepStart[i] = time;
        steps++;
        if (m == NONE) {
          time++;
        } else {
          shelf.begin(there);
          make(m, time);
          there = shelf.set;
          time += town.hours[m];
        }
      }
      shelf.begin(there);
      shelf.serve(town, HOURS, HOURS + 1);
      ahead = shelf.set;
    }

    /** The first MAKING of all that come to as much; NONE, to rest, behind all. */
    private int firstBest(int time, int set) {
      int first = NONE;
      int most = best[(time + 1) * SETS + set];
      for (int m = 0; m < town.makings.count; m++) {
        int worth = canBegin(m, time) ? begun(m, time, set) : NONE;
        if (worth > most || worth == most && first == NONE) {
          first = m;
          most = worth;
        }
      }
      return first;
    }

    /** The NIGHT behind the DAY that was walked. */
    void chooseNight(Nights nights, int n, int day) {
      nightTold = n > 1;
      if (!nightTold) {
        return;
      }
      nights.look(town, ahead, day % WEEK);
      nights.list(town);
      int first = 0;
      for (int c = 1; c < nights.choices; c++) {
        if (mornings[nights.stays[c]] > mornings[nights.stays[first]]) {
          first = c;
        }
      }
      nightChoice[0] = nights.worn[first];
      nightChoice[1] = nights.held[first];
      nightChoice[2] = nights.sent[first];
      nightChoice[3] = nights.stays[first];
    }

    /** LABOUR, from each set that comes soonest on; NONE if it can't be. */
    int fewestHours(Town newTown, int wanted, int set) {
      town = newTown;
      for (int s = 0; s < SETS; s++) {
        labour[s] = NONE;
        settled[s] = false;
      }
      labour[set] = 0;
      for (int i = 0; i < town.sets(); i++) {
        int s = soonestUnsettled();
        if (s == NONE || (wanted & ~s) == 0) {
          return s == NONE ? NONE : labour[s];
        }
        settled[s] = true;
        for (int m = 0; m < town.makings.count; m++) {
          if (town.hands[m] == 1 && (town.needs(m) & ~s) == 0) {
            shorten(made(m, s), labour[s] + town.hours[m]);
          }
        }
      }
      return NONE;
    }

    private int soonestUnsettled() {
      int soonest = NONE;
      for (int s = 0; s < town.sets(); s++) {
        boolean open = labour[s] != NONE && !settled[s];
        if (open && (soonest == NONE || labour[s] < labour[soonest])) {
          soonest = s;
        }
      }
      return soonest;
    }

    private void shorten(int set, int hours) {
      if (labour[set] == NONE || labour[set] > hours) {
        labour[set] = hours;
      }
    }
  }

  /** PLANS judged and done. */
  private static final class Deeds {
    int verdict;
    int verdictJob;
    int missingThing;
    private int missingJob;
    boolean dayTold;
    final int[] dayThere = new int[HOURS + 2];
    boolean daysTold;
    final int[] days = new int[4];
    private final Shelf shelf = new Shelf();
    // By JOB: why it can't be whatever is there (0: it can), and whether it is left in the DAY at hand.
    private final int[] why = new int[JOB_LIMIT];
    private final boolean[] left = new boolean[JOB_LIMIT];
    private final int[] given = new int[HOURS + 1];
    private final int[] seen = new int[HOURS + 2];

    void judge(Town town, Nights nights) {
      judgeJobs(town);
      verdict = 0;
      verdictJob = NONE;
      for (int j = 0; j < town.plan.jobs && verdict == 0; j++) {
        verdict = why[j];
        verdictJob = j;
      }
      if (verdict == 0) {
        shelf.begin(0);
        live(town, nights, 0, 0);
        verdict = missingJob == NONE ? 0 : 6;
        verdictJob = missingJob;
      }
    }

    int doDay(Town town, Nights nights, int set, int day) {
      judgeJobs(town);
      shelf.begin(set);
      live(town, nights, day, 0);
      System.arraycopy(seen, 0, dayThere, 0, dayThere.length);
      dayTold = true;
      return shelf.worth;
    }

    /** So many DAYS from nothing on; nobody falls ill if the seed is NONE. */
    int doDays(Town town, Nights nights, int n, int seed) {
      judgeJobs(town);
      shelf.begin(0);
      int jobsLeft = 0;
      int allHad = 0;
      int noneHad = 0;
      int draws = seed;
      for (int day = 0; day < n; day++) {
        int ill = 0;
        for (int p = 0; p < town.people.count && seed != NONE; p++) {
          draws = (draws * 2333 + 10007) % 65536;
          ill |= draws / 8 % 16 < town.illness[p] ? 1 << p : 0;
        }
        shelf.had = 0;
        jobsLeft += live(town, nights, day, ill);
        allHad += shelf.had == town.wants ? 1 : 0;
        noneHad += shelf.had == 0 ? 1 : 0;
      }
      days[0] = jobsLeft;
      days[1] = shelf.set;
      days[2] = allHad;
      days[3] = noneHad;
      daysTold = true;
      return shelf.worth;
    }

    private void judgeJobs(Town town) {
      for (int j = 0; j < town.plan.jobs; j++) {
        why[j] = town.plan.kind[j] == Plan.MAKE ? whyNotMade(town, j) : whyNotKept(town, j);
      }
    }

    private static int whyNotMade(Town town, int j) {
      Plan plan = town.plan;
      int m = plan.what[j];
      if (Integer.bitCount(plan.who[j]) != town.hands[m]) {
        return 1;
      }
      int span = span(town, j);
      for (int p = 0; p < town.people.count; p++) {
        if ((plan.who[j] >> p & 1) != 0 && (span & ~town.awake[p]) != 0) {
          return 2;
        }
      }
      for (int i = 0; i < j; i++) {
        boolean making = plan.kind[i] == Plan.MAKE;
        if (making && (plan.who[i] & plan.who[j]) != 0 && (span(town, i) & span) != 0) {
          return 3;
        }
      }
      return plan.start[j] + town.hours[m] > HOURS ? 4 : 0;
    }

    private static int whyNotKept(Town town, int j) {
      boolean may;
      switch (town.plan.kind[j]) {
        case Plan.WEAR:
          may = (town.wear >> town.plan.what[j] & 1) != 0;
          break;
        case Plan.SEND:
          may = (town.send >> town.plan.what[j] & 1) != 0;
          break;
        default:
          may = town.isAwake();
      }
      return may ? 0 : 5;
    }

    /** The HOURS of a JOB: those of its DAY. */
    private static int span(Town town, int j) {
      int hours = town.hours[town.plan.what[j]];
      return ((1 << hours) - 1) << town.plan.start[j] & ALL_HOURS;
    }

    /** One DAY and its NIGHT, from what is on the shelf to what STAYS there: how many JOBS were left. */
    private int live(Town town, Nights nights, int day, int ill) {
      Plan plan = town.plan;
      missingJob = NONE;
      for (int j = 0; j < plan.jobs; j++) {
        left[j] = why[j] != 0 || (plan.who[j] & ill) != 0;
      }
      for (int time = 0; time <= HOURS; time++) {
        given[time] = 0;
      }
      for (int time = 0; time <= HOURS; time++) {
        shelf.set |= given[time];
        shelf.serve(town, time, time + 1);
        for (int j = 0; j < plan.jobs; j++) {
          if (plan.kind[j] == Plan.MAKE && plan.start[j] == time && !left[j]) {
            begin(town, j);
          }
        }
        seen[time] = shelf.set;
      }
      shelf.set = overNight(town, nights, day);
      seen[HOURS + 1] = shelf.set;
      int jobsLeft = 0;
      for (int j = 0; j < plan.jobs; j++) {
        jobsLeft += left[j] ? 1 : 0;
      }
      return jobsLeft;
    }

    private void begin(Town town, int j) {
      int m = town.plan.what[j];
      int end = town.plan.start[j] + town.hours[m];
      if (areThere(j, town.needs(m)) && end <= HOURS) {
        shelf.set &= ~town.of[m];
        given[end] |= 1 << town.gives[m];
      }
    }

    /** Whether all that a JOB needs is there; if not, it is left, and the first such JOB of the DAY is kept. */
    private boolean areThere(int j, int needs) {
      int missing = needs & ~shelf.set;
      if (missing == 0) {
        return true;
      }
      left[j] = true;
      if (missingJob == NONE) {
        missingJob = j;
        missingThing = Integer.numberOfTrailingZeros(missing);
      }
      return false;
    }

    private int overNight(Town town, Nights nights, int day) {
      Plan plan = town.plan;
      int worn = NONE;
      int held = NONE;
      int sent = NONE;
      for (int j = 0; j < plan.jobs; j++) {
        int thing = plan.what[j];
        if (plan.kind[j] != Plan.MAKE && !left[j] && areThere(j, 1 << thing)) {
          worn = plan.kind[j] == Plan.WEAR ? thing : worn;
          held = plan.kind[j] == Plan.HOLD ? thing : held;
          sent = plan.kind[j] == Plan.SEND ? thing : sent;
        }
      }
      nights.look(town, shelf.set, day % WEEK);
      return nights.left(worn, held, sent);
    }
  }
}
