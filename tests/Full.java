import java.util.ArrayList;
import java.util.List;

/**
 * An object in which something stands in every place, and all that can be asked of one: what a refused call changes
 * is seen by asking it and another one that was made alike.
 */
final class Full {
  /** THINGS a, b, c; MAKINGS m, n, o; PEOPLE p, q; three WANTS. The town is AWAKE. */
  static final String TOWN = "thing a wear; thing b send; thing c; making m gives a hours 2 hands 1; making n gives b hours 3 hands 2 of a;"
      + " making o gives c hours 5 hands 1 with a; person p from 0 to 13; person q from 18 to 6 ill 4;"
      + " want a at 2 worth 1; want b at 13 worth 20 eaten; want c at 24 worth 300;";
  static final String LAW = "a stays worn; b stays sent or day < 2; c stays held and here a;";
  static final String PLAN = "at 0 m by p; at 2 o by p; at 20 m by q; wear a; hold c;";
  private static final String TAPE = "thing x; thing y;   ";

  private Full() { }

  /** TRAYS 0 to 2 (3, 60, 4 numbers; 3 is MISSING), two MARKS, TOWN, LAW, PLAN, all that is told of them, a FAULT, 20 bytes on the tape. */
  static OverNight make() {
    OverNight x = new OverNight();
    Check.town(x, "thing z send; want z at 3 worth 4;");
    x.mark();
    Check.law(x, "z stays sent;");
    Check.plan(x, "send z;");
    x.mark();
    Check.town(x, TOWN);
    Check.law(x, LAW);
    Check.plan(x, PLAN);
    x.tray(0, 0, 3);
    x.tray(1, 1, 60);
    x.tray(2, 1, 4);
    for (int i = 0; i < 3; i++) x.write(0, i, 5 + i);
    for (int i = 0; i < 60; i++) x.write(1, i, i % 2 == 0 ? 10 + i : 10);
    for (int i = 0; i < 4; i++) x.write(2, i, 70 + i);
    x.west(5, 3, 7);
    x.days(0, 2, 0);
    x.day(1, 18);
    x.done(1, 1);
    x.ill(7, 3);
    Check.law(x, "a stays;");
    Check.feed(x, TAPE);
    return x;
  }

  /** As make(), but with an empty tape. */
  static OverNight untaped() {
    OverNight x = make();
    x.plan(1);
    return x;
  }

  /** An object behind its constructor, and nothing more. */
  static OverNight bare() { return new OverNight(); }

  /** All that an object tells but STATUS; without what fault() tells and the tape if a FAULT may change these. It is spent by it. */
  static List<String> tells(OverNight x, boolean withTexts) {
    List<String> all = new ArrayList<>();
    all.add("top " + x.top());
    all.add("bottom " + x.bottom());
    if (withTexts) for (int i = 0; i < 2; i++) all.add("fault " + i + ": " + x.fault(i));
    for (int t = 0; t < 4; t++) for (int i : new int[] {0, 1, 2, 3, 4, 58, 59}) all.add("read " + t + " " + i + ": " + x.read(t, i) + " " + x.status());
    for (int k = 0; k == 0 || x.status() == 0; k++) all.add("step " + k + ": " + x.step(k) + " at " + x.stepTime(k) + " " + x.status());
    for (int i = 0; i < 4; i++) all.add("firstNight " + i + ": " + x.firstNight(i) + " " + x.status());
    for (int i = 0; i < 26; i++) all.add("there " + i + ": " + x.there(i) + " " + x.status());
    for (int i = 0; i < 4; i++) all.add("lived " + i + ": " + x.lived(i) + " " + x.status());
    all.addAll(told(x));
    all.addAll(marked(x));
    if (withTexts) {
      int taped = x.feed(0x7468696e, 0x6720713b, 0x20202020, 0x20202020, 0x20202020);
      all.add("tape " + taped + ", its THINGS: " + x.town(taped) + " " + x.status());
    }
    return all;
  }

  /** What is told of the TOWN, the LAW, the PLAN that are there. */
  static List<String> told(OverNight x) {
    List<String> all = new ArrayList<>();
    town(x, all);
    deeds(x, all);
    all.add("day: " + x.day(0, 0) + " " + x.step(0) + " " + x.step(1) + " " + x.stepTime(1));
    all.add("days: " + x.days(0, 3, 5) + " " + x.firstNight(0) + " " + x.firstNight(1) + " " + x.firstNight(2) + " " + x.firstNight(3));
    all.add("labour, hands, shift: " + x.labour(1, 0) + " " + x.hands(1) + " " + x.shift(5) + " " + x.status());
    return all;
  }

  /** What is told behind each MARK when all is taken back to it, till none is left. */
  static List<String> marked(OverNight x) {
    List<String> all = new ArrayList<>();
    for (int k = 0; k < 4 && x.back() >= 0; k++) {
      for (int i = 0; i < 6; i++) all.add("behind a MARK, many " + i + ": " + x.many(i));
      all.add("behind a MARK, LAW, PLAN: " + x.thing(0, 2) + " " + x.judged(0) + " " + x.done(1, 0) + " " + x.there(25) + " " + x.status());
    }
    all.add("MARKS left: " + x.back() + " " + x.status());
    return all;
  }

  private static void town(OverNight x, List<String> all) {
    for (int i = 0; i < 6; i++) all.add("many " + i + ": " + x.many(i));
    for (int k = 0; k < x.many(0); k++) for (int i = 0; i < 3; i++) all.add("thing " + k + " " + i + ": " + x.thing(k, i));
    for (int k = 0; k < Math.min(3, x.many(1)); k++) for (int i = 0; i < 5; i++) all.add("making " + k + " " + i + ": " + x.making(k, i));
    for (int k = 0; k < Math.min(2, x.many(2)); k++) for (int h = 0; h < 24; h++) all.add("awake " + k + " " + h + ": " + x.awake(k, h));
    for (int k = 0; k < Math.min(3, x.many(3)); k++) for (int i = 0; i < 4; i++) all.add("want " + k + " " + i + ": " + x.want(k, i));
    int[][] nights = {{7, -1, -1, -1, 0}, {7, 0, -1, -1, 2}, {7, -1, 2, -1, 2}, {6, -1, 2, -1, 2}, {7, -1, -1, 1, 2}, {3, 0, -1, 1, 1}};
    for (int[] n : nights) all.add("night " + n[0] + " " + n[1] + " " + n[2] + " " + n[3] + ": " + x.night(n[0], n[1], n[2], n[3], n[4]) + " " + x.status());
  }

  private static void deeds(OverNight x, List<String> all) {
    for (int i = 0; i < 3; i++) all.add("judged " + i + ": " + x.judged(i) + " " + x.status());
    all.add("done: " + x.done(0, 0) + " " + x.status());
    for (int i : new int[] {2, 7, 22, 25}) all.add("done, there " + i + ": " + x.there(i));
    all.add("ill: " + x.ill(3, 9) + " " + x.status());
    for (int i = 0; i < 4; i++) all.add("ill, lived " + i + ": " + x.lived(i));
  }
}
