/** The edges of each call's numbers, on both sides, and the order of STATUS where several hold. */
public final class NumberEdgeTest {
  private static final Edge FULL = new Edge(Full::make);
  private static final Edge BARE = new Edge(Full::bare);
  private static final int MIN = Integer.MIN_VALUE;
  private static final int MAX = Integer.MAX_VALUE;
  /** Below and above all that any call takes. */
  private static final int[] FAR = {MIN, MIN + 1, -1000, MAX - 1, MAX};

  private interface Of { long on(OverNight x, int v); }
  private interface FlagOf { boolean on(OverNight x, int v); }

  public static void main(String[] args) {
    newObject();
    traysOfFour();
    traySorts();
    trayNumbers();
    cutToTheSort();
    trayPlaces();
    pourPlaces();
    pourOrder();
    manyWhat();
    thingNumbers();
    makingNumbers();
    awakeNumbers();
    wantNumbers();
    nightNumbers();
    soonestAndBars();
    labourAndHands();
    dayAndDays();
    steps();
    firstNightWhat();
    priceNumbers();
    keptAndMore();
    shiftHours();
    westNumbers();
    speedNumbers();
    wayNumbers();
    wayOrder();
    judgedWhat();
    doneNumbers();
    thereTimes();
    livesAndIll();
    livedWhat();
    threeMarks();
    noThings();
    Check.end("NumberEdgeTest");
  }

  /** A number from low to high is well, one ahead and one behind are not, nor are those far off. */
  private static void range(Edge edge, int low, int high, int status, Of call) {
    edge.goes(x -> call.on(x, low));
    edge.goes(x -> call.on(x, high));
    edge.refused(status, x -> call.on(x, low - 1));
    edge.refused(status, x -> call.on(x, high + 1));
    for (int far : FAR) edge.refused(status, x -> call.on(x, far));
  }

  private static void flagRange(Edge edge, int low, int high, int status, FlagOf call) {
    edge.holds(x -> call.on(x, low));
    edge.holds(x -> call.on(x, high));
    edge.failed(status, x -> call.on(x, low - 1));
    edge.failed(status, x -> call.on(x, high + 1));
    for (int far : FAR) edge.failed(status, x -> call.on(x, far));
  }

  private static void newObject() {
    Check.part("a new object: MISSING, nothing, an empty tape, STATUS 0, the FRACTION 0 by 1");
    Check.due(-1, OverNight.NONE);
    OverNight x = new OverNight();
    Check.due(0, x.status());
    Check.due(0, x.top());
    Check.due(1, x.bottom());
    for (int t = 0; t < 4; t++) {
      int tray = t;
      BARE.refused(3, y -> y.read(tray, 0));
      BARE.failed(3, y -> y.write(tray, 0, 1));
      BARE.failed(3, y -> y.pour(tray, 0, tray, 0, 0));
      BARE.refused(3, y -> y.way(tray, 1, 1));
    }
    for (int i = 0; i < 6; i++) {
      int what = i;
      BARE.well(0, y -> y.many(what));
    }
    BARE.refused(2, y -> y.thing(0, 0));
    BARE.refused(2, y -> y.making(0, 0));
    BARE.refused(2, y -> y.awake(0, 0));
    BARE.refused(2, y -> y.want(0, 0));
    BARE.refused(5, y -> y.town(1));
    BARE.refused(5, y -> y.law(1));
    BARE.refused(5, y -> y.plan(1));
    BARE.refused(8, y -> y.back());
    Check.due(20, x.feed(0, 0, 0, 0, 0));
  }

  // ---- TRAYS.

  private static void traysOfFour() {
    Check.part("TRAYS, 0 to 3 (1)");
    flagRange(FULL, 0, 3, 1, (x, t) -> x.tray(t, 0, 1));
    flagRange(FULL, 0, 2, 1, (x, t) -> x.write(t == 3 ? 4 : t, 0, 1));
    range(FULL, 0, 2, 1, (x, t) -> x.read(t == 3 ? 4 : t, 0));
    FULL.refused(3, x -> x.read(3, 0));
    FULL.failed(3, x -> x.write(3, 0, 1));
    flagRange(FULL, 1, 2, 1, (x, t) -> x.pour(t == 0 || t == 3 ? 4 : t, 0, 1, 0, 1));
    flagRange(FULL, 1, 2, 1, (x, t) -> x.pour(1, 0, t == 0 || t == 3 ? -1 : t, 0, 1));
    range(FULL, 0, 2, 1, (x, t) -> x.way(t == 3 ? 4 : t, 1, 1));
    // a TRAY by itself: what is made of one changes no other
    OverNight x = Full.make();
    x.tray(0, 2, 7);
    Check.told(x, 10, x.read(1, 0));
    Check.no(x, 3, x.read(3, 0));
  }

  private static void traySorts() {
    Check.part("rows of numbers of 8 bits (sort 0), 16 (1), 32 (2) or 64 (3) (1)");
    flagRange(FULL, 0, 3, 1, (x, sort) -> x.tray(0, sort, 1));
    // 1 ahead of 5 and 6
    FULL.failed(1, x -> x.tray(0, 4, 61));
    FULL.failed(1, x -> x.tray(0, -1, -1));
    FULL.failed(1, x -> x.tray(4, 0, 61));
    FULL.failed(1, x -> x.tray(-1, 0, -1));
  }

  private static void trayNumbers() {
    Check.part("a TRAY is a row of so many numbers (at most 60; 5; below 0: 6), all 0");
    for (int many : new int[] {0, 1, 59, 60}) {
      OverNight x = Full.make();
      Check.due(true, x.tray(1, 0, many));
      Check.due(0, x.status());
      for (int i = 0; i < many; i++) Check.told(x, 0, x.read(1, i));
      Check.no(x, 4, x.read(1, many));
    }
    FULL.failed(5, x -> x.tray(1, 0, 61));
    FULL.failed(5, x -> x.tray(1, 0, MAX));
    FULL.failed(6, x -> x.tray(1, 0, -1));
    FULL.failed(6, x -> x.tray(1, 0, MIN));
    BARE.failed(5, x -> x.tray(3, 3, 61));
    BARE.failed(6, x -> x.tray(3, 3, -1));
  }

  private static void cutToTheSort() {
    Check.part("what is written is cut to 8, 16, 32, 64 bits, with sign");
    for (int s = 0; s < 4; s++) {
      int sort = s;
      int bits = 8 << sort;
      long most = Long.MAX_VALUE >> 64 - bits;
      long least = -most - 1;
      Edge edge = new Edge(() -> { OverNight x = Full.make(); x.tray(3, sort, 2); return x; });
      long[][] due = {{0, 0}, {-1, -1}, {most, most}, {least, least}, {most + 1, least}, {least - 1, most}, {most * 2 + 1, -1}, {Long.MAX_VALUE, sort == 3 ? most : -1}, {Long.MIN_VALUE, sort == 3 ? least : 0}};
      for (long[] d : due) edge.well(d[1], x -> x.write(3, 1, d[0]) ? x.read(3, 1) : 99);
      // 8 bits more than it holds are cut off
      if (sort < 3) edge.well(5, x -> x.write(3, 0, (1L << bits) + 5) ? x.read(3, 0) : 99);
    }
  }

  private static void trayPlaces() {
    Check.part("a place that the TRAY has not (4)");
    range(FULL, 0, 2, 4, (x, i) -> x.read(0, i));
    range(FULL, 0, 59, 4, (x, i) -> x.read(1, i));
    flagRange(FULL, 0, 2, 4, (x, i) -> x.write(0, i, 9));
    flagRange(FULL, 0, 59, 4, (x, i) -> x.write(1, i, 9));
    Edge none = new Edge(() -> { OverNight x = Full.make(); x.tray(3, 0, 0); return x; });
    none.refused(4, x -> x.read(3, 0));
    none.failed(4, x -> x.write(3, 0, 1));
    // 1 and 3 ahead of 4
    FULL.refused(1, x -> x.read(4, 99));
    FULL.refused(3, x -> x.read(3, 99));
    FULL.failed(1, x -> x.write(-1, -1, 1));
    FULL.failed(3, x -> x.write(3, -1, 1));
    // NONE is told from -1 by STATUS
    OverNight x = Full.make();
    x.write(0, 2, -1);
    Check.told(x, -1, x.read(0, 2));
    Check.no(x, 4, x.read(0, 3));
  }

  /** TRAY 1 has 60 numbers, TRAY 2 has 4, of one sort. */
  private static void pourPlaces() {
    Check.part("pour: so many numbers from place i on to place j on (4, 6)");
    FULL.holds(x -> x.pour(2, 0, 1, 56, 4));
    FULL.failed(4, x -> x.pour(2, 0, 1, 57, 4));
    FULL.failed(4, x -> x.pour(2, 1, 1, 0, 4));
    FULL.failed(4, x -> x.pour(2, 0, 1, 0, 5));
    FULL.holds(x -> x.pour(1, 56, 2, 0, 4));
    FULL.failed(4, x -> x.pour(1, 57, 2, 0, 4));
    FULL.failed(4, x -> x.pour(1, 0, 2, 1, 4));
    FULL.failed(4, x -> x.pour(1, 0, 2, 0, 5));
    FULL.holds(x -> x.pour(1, 59, 2, 3, 1));
    FULL.failed(4, x -> x.pour(1, 60, 2, 3, 1));
    FULL.failed(4, x -> x.pour(1, 59, 2, 4, 1));
    FULL.failed(4, x -> x.pour(1, -1, 2, 0, 1));
    FULL.failed(4, x -> x.pour(1, 0, 2, -1, 1));
    FULL.failed(4, x -> x.pour(1, -1, 2, 0, 0));
    FULL.failed(4, x -> x.pour(1, 0, 2, -1, 0));
    FULL.holds(x -> x.pour(1, 0, 1, 0, 60));
    FULL.failed(4, x -> x.pour(1, 0, 1, 0, 61));
    for (int far : new int[] {MAX, MAX - 1}) {
      FULL.failed(4, x -> x.pour(1, far, 2, 0, 1));
      FULL.failed(4, x -> x.pour(1, 0, 2, far, 1));
      FULL.failed(4, x -> x.pour(1, 0, 2, 0, far));
      FULL.failed(4, x -> x.pour(1, far, 2, far, far));
    }
    FULL.failed(4, x -> x.pour(1, MIN, 2, 0, 1));
    FULL.failed(4, x -> x.pour(1, 0, 2, MIN, 1));
    // none at all is well, behind the last place too, and changes nothing; further on it is not
    FULL.holds(x -> x.pour(1, 0, 2, 0, 0));
    FULL.holds(x -> x.pour(1, 60, 2, 4, 0));
    FULL.failed(4, x -> x.pour(1, 61, 2, 4, 0));
    FULL.failed(4, x -> x.pour(1, 60, 2, 5, 0));
    FULL.failed(6, x -> x.pour(1, 0, 2, 0, -1));
    FULL.failed(6, x -> x.pour(1, 0, 2, 0, MIN));
    // to the same one, as they were
    OverNight x = Full.make();
    Check.due(true, x.pour(2, 0, 2, 1, 3));
    for (int i = 0; i < 4; i++) Check.told(x, i == 0 ? 70 : 69 + i, x.read(2, i));
    x = Full.make();
    Check.due(true, x.pour(2, 1, 2, 0, 3));
    for (int i = 0; i < 4; i++) Check.told(x, i == 3 ? 73 : 71 + i, x.read(2, i));
    // only these: the places ahead and behind stay
    x = Full.make();
    Check.due(true, x.pour(2, 1, 1, 10, 2));
    long[] due = {10, 71, 72, 22};
    for (int i = 0; i < 4; i++) Check.told(x, due[i], x.read(1, 9 + i));
  }

  private static void pourOrder() {
    Check.part("pour: 1, 3 (either), 11, 6, 4, asked in this order");
    FULL.failed(1, x -> x.pour(4, 99, 3, 99, -1));
    FULL.failed(1, x -> x.pour(3, 99, 4, 99, -1));
    FULL.failed(3, x -> x.pour(3, 99, 0, 99, -1));
    FULL.failed(3, x -> x.pour(0, 99, 3, 99, -1));
    FULL.failed(3, x -> x.pour(3, 0, 3, 0, 0));
    FULL.failed(11, x -> x.pour(0, 99, 1, 99, -1));
    FULL.failed(11, x -> x.pour(1, 0, 0, 0, 1));
    FULL.failed(11, x -> x.pour(1, 0, 0, 0, 0));
    FULL.failed(6, x -> x.pour(2, 99, 1, -1, -1));
    FULL.failed(4, x -> x.pour(2, 99, 1, -1, 1));
    FULL.holds(x -> x.pour(2, 0, 1, 0, 1));
  }

  // ---- texts.

  private static void manyWhat() {
    Check.part("many: what 0 to 5 (5)");
    range(FULL, 0, 5, 5, (x, what) -> x.many(what));
    int[] due = {3, 3, 2, 3, 5, 1};
    for (int i = 0; i < 6; i++) {
      int what = i;
      FULL.well(due[i], x -> x.many(what));
    }
  }

  private static void thingNumbers() {
    Check.part("thing: a THING (2), what 0 to 2 (5)");
    range(FULL, 0, 2, 2, (x, k) -> x.thing(k, 0));
    range(FULL, 0, 2, 5, (x, what) -> x.thing(2, what));
    FULL.refused(2, x -> x.thing(3, 3));
    FULL.refused(2, x -> x.thing(-1, -1));
  }

  private static void makingNumbers() {
    Check.part("making: a MAKING (2), what 0 to 4 (5)");
    range(FULL, 0, 2, 2, (x, m) -> x.making(m, 0));
    range(FULL, 0, 4, 5, (x, what) -> x.making(2, what));
    FULL.refused(2, x -> x.making(3, 5));
    FULL.refused(2, x -> x.making(-1, -1));
  }

  private static void awakeNumbers() {
    Check.part("awake: a PERSON (2), an HOUR 0 to 23 (5)");
    range(FULL, 0, 1, 2, (x, p) -> x.awake(p, 0));
    range(FULL, 0, 23, 5, (x, hour) -> x.awake(1, hour));
    FULL.refused(2, x -> x.awake(2, 24));
    FULL.refused(2, x -> x.awake(-1, -1));
    // from 0 to 13: 12 is the last; from 18 to 6: 18 the first, 5 the last
    FULL.well(1, x -> x.awake(0, 0));
    FULL.well(1, x -> x.awake(0, 12));
    FULL.well(0, x -> x.awake(0, 13));
    FULL.well(0, x -> x.awake(0, 23));
    FULL.well(0, x -> x.awake(1, 17));
    FULL.well(1, x -> x.awake(1, 18));
    FULL.well(1, x -> x.awake(1, 23));
    FULL.well(1, x -> x.awake(1, 0));
    FULL.well(1, x -> x.awake(1, 5));
    FULL.well(0, x -> x.awake(1, 6));
  }

  private static void wantNumbers() {
    Check.part("want: a WANT (2), what 0 to 3 (5)");
    range(FULL, 0, 2, 2, (x, w) -> x.want(w, 0));
    range(FULL, 0, 3, 5, (x, what) -> x.want(2, what));
    FULL.refused(2, x -> x.want(3, 4));
    FULL.refused(2, x -> x.want(-1, -1));
  }

  // ---- NIGHTS, what can be.

  private static void nightNumbers() {
    Check.part("night: a set, THINGS or NONE (2), a DAY 0 to 999 (5), one is not there, may not be (9)");
    range(FULL, 0, 7, 2, (x, set) -> x.night(set, -1, -1, -1, 0));
    range(FULL, 0, 999, 5, (x, day) -> x.night(7, 0, 2, 1, day));
    range(FULL, -1, 0, 2, (x, k) -> x.night(7, k == 1 ? 3 : k, -1, -1, 0));
    range(FULL, -1, 2, 2, (x, k) -> x.night(7, -1, k, -1, 0));
    range(FULL, -1, 1, 2, (x, k) -> x.night(7, -1, -1, k == 0 ? -1 : k == 2 ? 3 : k, 0));
    FULL.refused(9, x -> x.night(7, 1, -1, -1, 0));
    FULL.refused(9, x -> x.night(7, 2, -1, -1, 0));
    FULL.refused(9, x -> x.night(7, -1, -1, 0, 0));
    FULL.refused(9, x -> x.night(7, -1, -1, 2, 0));
    FULL.refused(9, x -> x.night(6, 0, -1, -1, 0));
    FULL.refused(9, x -> x.night(5, -1, 1, -1, 0));
    FULL.refused(9, x -> x.night(5, -1, -1, 1, 0));
    FULL.refused(9, x -> x.night(0, 0, -1, -1, 0));
    // 2 ahead of 5 ahead of 9
    FULL.refused(2, x -> x.night(8, 1, -1, -1, 1000));
    FULL.refused(2, x -> x.night(6, 3, 0, 0, 1000));
    FULL.refused(2, x -> x.night(6, 0, 3, 0, -1));
    FULL.refused(2, x -> x.night(6, 0, 0, -2, -1));
    FULL.refused(5, x -> x.night(6, 0, 0, 0, 1000));
    // held: the town must be AWAKE in HOURS 23 and 0, by one PERSON
    String[] awake = {"person p from 23 to 1;", "person p from 0 to 24;", "person p from 5 to 5;", "person p from 1 to 2; person q from 22 to 3;"};
    String[] asleep = {"", "person p from 23 to 24;", "person p from 23 to 0;", "person p from 24 to 1;", "person p from 0 to 23;", "person p from 23 to 0; person q from 0 to 1;", "person p from 1 to 0;"};
    for (String people : awake) new Edge(() -> Check.in("thing a;" + people, "a stays held;")).well(1, x -> x.night(1, -1, 0, -1, 0));
    for (String people : asleep) new Edge(() -> Check.in("thing a;" + people, "a stays held;")).refused(9, x -> x.night(1, -1, 0, -1, 0));
    for (String people : awake) new Edge(() -> Check.in("thing a;" + people)).well(1, x -> x.many(5));
    for (String people : asleep) new Edge(() -> Check.in("thing a;" + people)).well(0, x -> x.many(5));
  }

  private static void soonestAndBars() {
    Check.part("soonest, bars: a THING, a set (2), what 0, 1 (5)");
    range(FULL, 0, 2, 2, (x, k) -> x.soonest(k, 0));
    range(FULL, 0, 7, 2, (x, set) -> x.soonest(0, set));
    range(FULL, 0, 2, 2, (x, k) -> x.bars(k, 0, 0));
    range(FULL, 0, 6, 2, (x, set) -> x.bars(0, set == 7 ? 8 : set, 0));
    range(FULL, 0, 1, 5, (x, what) -> x.bars(1, 0, what));
    FULL.refused(8, x -> x.bars(0, 7, 0));
    // 2 ahead of 5 ahead of 8
    FULL.refused(2, x -> x.bars(3, 8, 2));
    FULL.refused(2, x -> x.bars(-1, 0, 2));
    FULL.refused(2, x -> x.bars(0, -1, -1));
    FULL.refused(5, x -> x.bars(0, 7, 2));
    FULL.refused(5, x -> x.bars(0, 0, -1));
    FULL.refused(8, x -> x.bars(0, 0, 1));
    // 2 ahead of 9
    Edge never = new Edge(() -> Check.in("thing a; thing b;"));
    never.refused(9, x -> x.soonest(1, 0));
    never.refused(2, x -> x.soonest(2, 0));
    never.refused(2, x -> x.soonest(1, 4));
    never.well(0, x -> x.soonest(1, 2));
  }

  private static void labourAndHands() {
    Check.part("labour, hands: sets (2)");
    range(FULL, 0, 5, 2, (x, set) -> x.labour(set == 6 ? 8 : set, 0));
    range(FULL, 0, 7, 2, (x, set) -> x.labour(1, set));
    range(FULL, 0, 7, 2, (x, set) -> x.hands(set));
    Edge never = new Edge(() -> Check.in("thing a; thing b;"));
    never.refused(8, x -> x.labour(2, 1));
    never.refused(2, x -> x.labour(4, 1));
    never.refused(2, x -> x.labour(2, 4));
    never.refused(2, x -> x.labour(-1, 4));
    never.refused(9, x -> x.hands(2));
    never.refused(2, x -> x.hands(4));
    never.well(0, x -> x.labour(2, 2));
    never.well(0, x -> x.hands(0));
  }

  // ---- ALONE.

  private static void dayAndDays() {
    Check.part("day, days: a set (2), a time 0 to 24, n 1 to 9, a DAY 0 to 999 (5)");
    range(FULL, 0, 7, 2, (x, set) -> x.day(set, 0));
    range(FULL, 0, 24, 5, (x, time) -> x.day(0, time));
    range(FULL, 0, 7, 2, (x, set) -> x.days(set, 2, 0));
    range(FULL, 1, 9, 5, (x, n) -> x.days(0, n, 0));
    range(FULL, 0, 999, 5, (x, day) -> x.days(0, 2, day));
    FULL.refused(2, x -> x.day(8, 25));
    FULL.refused(2, x -> x.day(-1, -1));
    FULL.refused(2, x -> x.days(8, 0, -1));
    FULL.refused(2, x -> x.days(-1, 10, 1000));
  }

  private static void steps() {
    Check.part("step, stepTime: the k-th STEP (8: none such)");
    // what Full keeps of day(1, 18): rest or work from 18 on
    OverNight x = Full.make();
    int many = 0;
    while (x.step(many) >= 0 || x.status() == 0) many++;
    Check.due(true, many > 0 && many <= 6);
    int last = many - 1;
    range(FULL, 0, last, 8, (y, k) -> y.step(k));
    range(FULL, 0, last, 8, (y, k) -> y.stepTime(k));
    FULL.well(18, y -> y.stepTime(0));
    BARE.refused(8, y -> y.step(0));
    BARE.refused(8, y -> y.stepTime(0));
    // as many as there can be: an hour each; from 24 on none
    Edge idle = new Edge(() -> { OverNight y = new OverNight(); y.day(0, 0); return y; });
    range(idle, 0, 23, 8, (y, k) -> y.step(k));
    range(idle, 0, 23, 8, (y, k) -> y.stepTime(k));
    idle.well(23, y -> y.stepTime(23));
    idle.well(-1, y -> y.step(23));
    Edge over = new Edge(() -> { OverNight y = Full.make(); y.day(0, 24); return y; });
    over.refused(8, y -> y.step(0));
    over.refused(8, y -> y.stepTime(0));
    Edge late = new Edge(() -> { OverNight y = Full.make(); y.day(0, 23); return y; });
    range(late, 0, 0, 8, (y, k) -> y.step(k));
    late.well(23, y -> y.stepTime(0));
    // one that takes the whole DAY
    Edge long24 = new Edge(() -> { OverNight y = Check.in("thing a; making m gives a hours 24 hands 1; want a at 24 worth 1;"); y.day(0, 0); return y; });
    long24.well(0, y -> y.step(0));
    long24.refused(8, y -> y.step(1));
  }

  private static void firstNightWhat() {
    Check.part("firstNight: what 0 to 3 (5; 8: there was none, or of one DAY)");
    range(FULL, 0, 3, 5, (x, what) -> x.firstNight(what));
    BARE.refused(8, x -> x.firstNight(0));
    BARE.refused(5, x -> x.firstNight(4));
    BARE.refused(5, x -> x.firstNight(-1));
    Edge one = new Edge(() -> { OverNight x = Full.make(); x.days(0, 1, 0); return x; });
    one.refused(8, x -> x.firstNight(0));
    one.refused(8, x -> x.firstNight(3));
    Edge two = new Edge(() -> { OverNight x = new OverNight(); x.days(0, 2, 999); return x; });
    for (int i = 0; i < 3; i++) {
      int what = i;
      two.well(-1, x -> x.firstNight(what));
    }
    two.well(0, x -> x.firstNight(3));
    // day() has no NIGHT and leaves it
    new Edge(() -> { OverNight x = new OverNight(); x.day(0, 0); return x; }).refused(8, x -> x.firstNight(0));
  }

  private static void priceNumbers() {
    Check.part("price: a THING, a set (2), a time 0 to 24 (5)");
    range(FULL, 0, 2, 2, (x, k) -> x.price(k, 0, 0));
    range(FULL, 0, 7, 2, (x, set) -> x.price(0, 0, set));
    range(FULL, 0, 24, 5, (x, time) -> x.price(0, time, 0));
    FULL.refused(2, x -> x.price(3, 25, 0));
    FULL.refused(2, x -> x.price(0, 25, 8));
    FULL.refused(2, x -> x.price(-1, -1, -1));
  }

  private static void keptAndMore() {
    Check.part("kept, bestKept, more, bestMore: a THING (2), n 1 to 9 (5), no THINGS (8)");
    range(FULL, 0, 2, 2, (x, k) -> x.kept(k, 2));
    range(FULL, 0, 2, 2, (x, k) -> x.more(k, 2));
    range(FULL, 1, 9, 5, (x, n) -> x.kept(0, n));
    range(FULL, 1, 9, 5, (x, n) -> x.more(0, n));
    range(FULL, 1, 9, 5, (x, n) -> x.bestKept(n));
    range(FULL, 1, 9, 5, (x, n) -> x.bestMore(n));
    FULL.refused(2, x -> x.kept(3, 0));
    FULL.refused(2, x -> x.kept(-1, 10));
    FULL.refused(2, x -> x.more(3, 10));
    FULL.refused(2, x -> x.more(-1, 0));
    BARE.refused(8, x -> x.bestKept(1));
    BARE.refused(8, x -> x.bestMore(9));
    BARE.refused(5, x -> x.bestKept(0));
    BARE.refused(5, x -> x.bestMore(10));
    // one THING is enough
    Edge one = new Edge(() -> Check.in("thing a;"));
    one.well(0, x -> x.bestKept(9));
    one.well(0, x -> x.bestMore(9));
  }

  // ---- who is awake, ships.

  private static void shiftHours() {
    Check.part("shift: a set of 24 HOURS (5); in one of them nobody is awake (9)");
    // p from 0 to 13, q from 18 to 6
    int p = (1 << 13) - 1;
    int q = (1 << 24) - (1 << 18) | (1 << 6) - 1;
    FULL.well(0, x -> x.shift(0));
    FULL.well(1, x -> x.shift(p));
    FULL.well(2, x -> x.shift(q));
    FULL.well(3, x -> x.shift(p | q));
    FULL.refused(9, x -> x.shift(p | 1 << 13));
    FULL.refused(9, x -> x.shift(q | 1 << 17));
    FULL.refused(9, x -> x.shift((1 << 24) - 1));
    FULL.refused(5, x -> x.shift(1 << 24));
    FULL.refused(5, x -> x.shift(-1));
    FULL.refused(5, x -> x.shift(MIN));
    FULL.refused(5, x -> x.shift(MAX));
    BARE.well(0, x -> x.shift(0));
    BARE.refused(9, x -> x.shift(1));
    BARE.refused(9, x -> x.shift(1 << 23));
    Edge all = new Edge(() -> Check.in("person p from 3 to 3;"));
    all.well(1, x -> x.shift((1 << 24) - 1));
    all.refused(5, x -> x.shift(1 << 24 | 1));
    // of several the least; but fewer PEOPLE ahead of a lesser set
    String four = "person a from 0 to 12; person b from 1 to 13; person c from 12 to 0; person d from 13 to 0;";
    Edge pairs = new Edge(() -> Check.in(four));
    pairs.well(1, x -> x.shift(1 << 5));
    pairs.well(2, x -> x.shift(1 << 12 | 1 << 2));
    pairs.well(4, x -> x.shift(1 << 13));
    pairs.well(5, x -> x.shift(1 << 5 | 1 << 23));
    pairs.well(5, x -> x.shift((1 << 24) - 1));
    Edge one = new Edge(() -> Check.in(four + "person e from 6 to 5; person f from 7 to 7;"));
    one.well(2, x -> x.shift(1 << 12 | 1 << 2));
    one.well(16, x -> x.shift(1 << 6 | 1 << 23));
    one.well(32, x -> x.shift(1 << 5 | 1 << 23));
    one.well(32, x -> x.shift((1 << 24) - 1));
  }

  private static void fraction(long top, long bottom, Edge.Flag call) {
    OverNight x = Full.make();
    Check.due(true, call.on(x));
    Check.due(0, x.status());
    Check.due(top, x.top());
    Check.due(bottom, x.bottom());
  }

  private static void westNumbers() {
    Check.part("west: PLACES 1 to 24, up 0 to 99, low 1 to 99, up below low (5)");
    flagRange(FULL, 1, 24, 5, (x, ahead) -> x.west(ahead, 1, 2));
    flagRange(FULL, 0, 98, 5, (x, up) -> x.west(3, up, 99));
    flagRange(FULL, 1, 99, 5, (x, low) -> x.west(3, 0, low));
    flagRange(FULL, 51, 99, 5, (x, low) -> x.west(3, 50, low));
    FULL.failed(5, x -> x.west(3, 99, 99));
    FULL.failed(5, x -> x.west(3, 99, 100));
    FULL.failed(5, x -> x.west(3, -1, 0));
    FULL.failed(5, x -> x.west(3, -2, -1));
    fraction(1, 1, x -> x.west(1, 0, 1));
    fraction(24, 1, x -> x.west(24, 0, 99));
    fraction(24 * 99, 1, x -> x.west(24, 98, 99));
    fraction(99, 1, x -> x.west(1, 98, 99));
    fraction(99, 98, x -> x.west(1, 1, 99));
    fraction(10, 3, x -> x.west(2, 2, 5));
    fraction(8, 1, x -> x.west(4, 3, 6));
    // the FRACTION told ahead: 5 PLACES, 3 by 7
    OverNight x = Full.make();
    Check.due(35, x.top());
    Check.due(4, x.bottom());
  }

  private static void speedNumbers() {
    Check.part("speed: PLACES 1 to 24, n hours 1 to 9,999 (5); 1 less PLACES by n, 0 if that is below");
    flagRange(FULL, 1, 24, 5, (x, ahead) -> x.speed(ahead, 7));
    flagRange(FULL, 1, 9999, 5, (x, n) -> x.speed(7, n));
    FULL.failed(5, x -> x.speed(0, 0));
    fraction(0, 1, x -> x.speed(1, 1));
    fraction(1, 2, x -> x.speed(1, 2));
    fraction(0, 1, x -> x.speed(24, 23));
    fraction(0, 1, x -> x.speed(24, 24));
    fraction(1, 25, x -> x.speed(24, 25));
    fraction(9998, 9999, x -> x.speed(1, 9999));
    fraction(3325, 3333, x -> x.speed(24, 9999));
    fraction(0, 1, x -> x.speed(24, 1));
  }

  /** A TRAY of sort 1 with so many numbers: 2, 1, 2, 1 .. */
  private static Edge.Maker couples(int numbers) {
    return () -> {
      OverNight x = Full.make();
      x.tray(3, 1, numbers);
      for (int i = 0; i < numbers; i++) x.write(3, i, 2 - i % 2);
      return x;
    };
  }

  private static Edge written(int numbers, int place, int v) {
    return new Edge(() -> { OverNight x = couples(numbers).make(); x.write(3, place, v); return x; });
  }

  private static void wayNumbers() {
    Check.part("way: couples 1 to 30, PLACES 1 to 24 (5), too few numbers (4), 0 to 999 each (5)");
    Edge sixty = new Edge(couples(60));
    range(sixty, 1, 30, 5, (x, many) -> x.way(3, many, 1));
    range(sixty, 1, 24, 5, (x, ahead) -> x.way(3, 30, ahead));
    for (int n = 1; n < 4; n++) {
      int many = n;
      new Edge(couples(2 * n)).goes(x -> x.way(3, many, 24));
      new Edge(couples(2 * n)).refused(4, x -> x.way(3, many + 1, 24));
      new Edge(couples(2 * n + 1)).refused(4, x -> x.way(3, many + 1, 24));
    }
    new Edge(couples(0)).refused(4, x -> x.way(3, 1, 1));
    new Edge(couples(59)).refused(4, x -> x.way(3, 30, 1));
    for (int place : new int[] {0, 1, 58, 59}) {
      written(60, place, 0).goes(x -> x.way(3, 30, 24));
      written(60, place, 999).goes(x -> x.way(3, 30, 24));
      written(60, place, -1).refused(5, x -> x.way(3, 30, 24));
      written(60, place, 1000).refused(5, x -> x.way(3, 30, 24));
      written(60, place, -32768).refused(5, x -> x.way(3, 30, 24));
      written(60, place, 32767).refused(5, x -> x.way(3, 30, 24));
    }
    // what stands behind the couples asked for is not looked at
    written(60, 58, -1).goes(x -> x.way(3, 29, 24));
    written(60, 2, 1000).goes(x -> x.way(3, 1, 24));
    // as far, or farther; one less is not there yet: each couple brings the stroke one PLACE nearer
    for (int n = 1; n < 24; n++) {
      int ahead = n;
      sixty.well(ahead - 1, x -> x.way(3, 30, ahead));
      sixty.well(ahead - 1, x -> x.way(3, ahead, ahead));
      if (n > 1) sixty.well(-1, x -> x.way(3, ahead - 1, ahead));
    }
    sixty.well(23, x -> x.way(3, 24, 24));
    sixty.well(-1, x -> x.way(3, 23, 24));
    // 0 and 999: nothing sailed, no hours; the stroke past at the one end, the ship far ahead at another
    written(2, 1, 0).well(0, x -> x.way(3, 1, 2));
    written(2, 1, 0).well(-1, x -> x.way(3, 1, 3));
    written(2, 0, 0).well(-1, x -> x.way(3, 1, 1));
    written(4, 1, 999).well(-1, x -> x.way(3, 2, 1));
    written(4, 2, 999).well(1, x -> x.way(3, 2, 24));
  }

  private static void wayOrder() {
    Check.part("way: 1; 3; 5: so many, PLACES; 4; 5: a number; in this order");
    FULL.refused(1, x -> x.way(4, 0, 0));
    FULL.refused(1, x -> x.way(-1, 31, 25));
    FULL.refused(3, x -> x.way(3, 0, 0));
    FULL.refused(3, x -> x.way(3, 31, 25));
    written(4, 0, -1).refused(5, x -> x.way(3, 31, 1));
    written(4, 0, -1).refused(5, x -> x.way(3, 3, 25));
    written(4, 0, -1).refused(4, x -> x.way(3, 3, 24));
    written(4, 0, -1).refused(5, x -> x.way(3, 2, 24));
    // sort 3 holds more than any number may be
    Edge wide = new Edge(() -> { OverNight x = Full.make(); x.tray(3, 3, 2); x.write(3, 0, (1L << 32) + 5); return x; });
    wide.refused(5, x -> x.way(3, 1, 1));
  }

  // ---- PLANS.

  private static void judgedWhat() {
    Check.part("judged: what 0 to 2 (5); 1: all is well (8); 2: none of kind 6 (8)");
    Edge six = new Edge(() -> { OverNight x = Full.make(); x.plan(1); Check.plan(x, "wear a;"); return x; });
    range(six, 0, 2, 5, (x, what) -> x.judged(what));
    six.well(6, x -> x.judged(0));
    six.well(0, x -> x.judged(1));
    six.well(0, x -> x.judged(2));
    Edge five = new Edge(() -> { OverNight x = Full.make(); x.plan(1); Check.plan(x, "wear b;"); return x; });
    range(five, 0, 1, 5, (x, what) -> x.judged(what == 2 ? 3 : what));
    five.refused(8, x -> x.judged(2));
    five.well(0, x -> x.judged(1));
    for (Edge well : new Edge[] {FULL, BARE}) {
      well.well(0, x -> x.judged(0));
      well.refused(8, x -> x.judged(1));
      well.refused(8, x -> x.judged(2));
      well.refused(5, x -> x.judged(3));
      well.refused(5, x -> x.judged(-1));
    }
  }

  private static void doneNumbers() {
    Check.part("done: a set (2), a DAY 0 to 999 (5), no PLAN (8)");
    range(FULL, 0, 7, 2, (x, set) -> x.done(set, 0));
    range(FULL, 0, 999, 5, (x, day) -> x.done(0, day));
    FULL.refused(2, x -> x.done(8, 1000));
    FULL.refused(2, x -> x.done(-1, -1));
    BARE.refused(8, x -> x.done(0, 0));
    BARE.refused(8, x -> x.done(0, 999));
    BARE.refused(5, x -> x.done(0, 1000));
    BARE.refused(5, x -> x.done(0, -1));
    BARE.refused(2, x -> x.done(1, 0));
    BARE.refused(2, x -> x.done(1, 1000));
    Edge empty = new Edge(() -> { OverNight x = new OverNight(); x.plan(0); return x; });
    empty.well(0, x -> x.done(0, 0));
    // a PLAN with a FAULT is none
    new Edge(() -> { OverNight x = new OverNight(); Check.plan(x, ";"); return x; }).refused(8, x -> x.done(0, 0));
  }

  private static void thereTimes() {
    Check.part("there: times 0 to 24, 25: what STAYS (5; 8: there was none)");
    range(FULL, 0, 25, 5, (x, time) -> x.there(time));
    BARE.refused(8, x -> x.there(0));
    BARE.refused(8, x -> x.there(25));
    BARE.refused(5, x -> x.there(26));
    BARE.refused(5, x -> x.there(-1));
    // lives() is no done(), nor is one that was refused
    new Edge(() -> { OverNight x = new OverNight(); x.done(0, 0); x.plan(0); x.lives(1); x.ill(1, 1); x.done(1, 0); return x; }).refused(8, x -> x.there(0));
  }

  private static void livesAndIll() {
    Check.part("lives, ill: n 1 to 99, a seed 0 to 9,999 (5), no PLAN (8)");
    range(FULL, 1, 99, 5, (x, n) -> x.lives(n));
    range(FULL, 1, 99, 5, (x, n) -> x.ill(0, n));
    range(FULL, 0, 9999, 5, (x, seed) -> x.ill(seed, 2));
    BARE.refused(8, x -> x.lives(1));
    BARE.refused(8, x -> x.lives(99));
    BARE.refused(5, x -> x.lives(0));
    BARE.refused(5, x -> x.lives(100));
    BARE.refused(8, x -> x.ill(0, 1));
    BARE.refused(8, x -> x.ill(9999, 99));
    BARE.refused(5, x -> x.ill(-1, 1));
    BARE.refused(5, x -> x.ill(10000, 1));
    BARE.refused(5, x -> x.ill(0, 0));
    BARE.refused(5, x -> x.ill(0, 100));
  }

  private static void livedWhat() {
    Check.part("lived: what 0 to 3 (5; 8: there was none)");
    range(FULL, 0, 3, 5, (x, what) -> x.lived(what));
    BARE.refused(8, x -> x.lived(0));
    BARE.refused(8, x -> x.lived(3));
    BARE.refused(5, x -> x.lived(4));
    BARE.refused(5, x -> x.lived(-1));
    new Edge(() -> { OverNight x = new OverNight(); x.lives(1); x.plan(0); x.done(0, 0); x.lives(0); x.ill(-1, 1); return x; }).refused(8, x -> x.lived(0));
  }

  // ---- MARKS.

  private static void threeMarks() {
    Check.part("MARKS, at most 3 (7); back without one (8)");
    FULL.well(3, x -> x.mark());
    Edge three = new Edge(() -> { OverNight x = Full.make(); x.mark(); return x; });
    three.refused(7, x -> x.mark());
    three.well(2, x -> x.back());
    FULL.well(1, x -> x.back());
    BARE.well(1, x -> x.mark());
    BARE.refused(8, x -> x.back());
    Edge spent = new Edge(() -> { OverNight x = Full.make(); x.back(); x.back(); return x; });
    spent.refused(8, x -> x.back());
    spent.well(1, x -> x.mark());
    // one that is gone makes room
    new Edge(() -> { OverNight x = three.made(); x.back(); return x; }).well(3, x -> x.mark());
  }

  private static void noThings() {
    Check.part("a set with others, without THINGS (2)");
    Edge[] edges = {BARE, new Edge(() -> Check.in("person p from 0 to 0;"))};
    for (Edge edge : edges) {
      edge.well(0, x -> x.night(0, -1, -1, -1, 0));
      edge.refused(2, x -> x.night(1, -1, -1, -1, 0));
      edge.refused(2, x -> x.night(0, 0, -1, -1, 0));
      edge.refused(2, x -> x.night(0, -1, 0, -1, 0));
      edge.refused(2, x -> x.night(0, -1, -1, 0, 0));
      edge.refused(2, x -> x.soonest(0, 0));
      edge.refused(2, x -> x.bars(0, 0, 0));
      edge.well(0, x -> x.labour(0, 0));
      edge.refused(2, x -> x.labour(1, 0));
      edge.refused(2, x -> x.labour(0, 1));
      edge.well(0, x -> x.hands(0));
      edge.refused(2, x -> x.hands(1));
      edge.well(0, x -> x.day(0, 24));
      edge.refused(2, x -> x.day(1, 24));
      edge.well(0, x -> x.days(0, 9, 999));
      edge.refused(2, x -> x.days(1, 1, 0));
      edge.refused(2, x -> x.price(0, 0, 0));
      edge.refused(2, x -> x.kept(0, 1));
      edge.refused(2, x -> x.more(0, 1));
    }
  }
}
