/** Promises 1 to 8, 35 to 37: a new object, STATUS, FRACTIONS, TRAYS, ships. */
public final class TrayTest {
  public static void main(String[] args) {
    promise1();
    promise2();
    promises3And4();
    promise5();
    promises6And7();
    promise8();
    promise35();
    promise36();
    promise37();
    Check.end("TrayTest");
  }

  private static void fraction(OverNight x, long top, long bottom, boolean told) {
    Check.due(true, told);
    Check.due(0, x.status());
    Check.due(top, x.top());
    Check.due(bottom, x.bottom());
  }

  private static void promise1() {
    Check.part("1 a new object");
    OverNight x = new OverNight();
    Check.due(-1, OverNight.NONE);
    Check.due(0, x.status());
    Check.due(0, x.top());
    Check.due(1, x.bottom());
    Check.due(-1, x.fault(0));
    for (int t = 0; t < 4; t++) Check.no(x, 3, x.read(t, 0));
    for (int w = 0; w < 6; w++) Check.told(x, 0, x.many(w));
    Check.no(x, 8, x.back());
    Check.no(x, 8, x.lives(1));
    Check.no(x, 8, x.step(0));
    Check.no(x, 8, x.stepTime(0));
    Check.no(x, 8, x.firstNight(0));
    Check.no(x, 8, x.there(0));
    Check.no(x, 8, x.lived(0));
    Check.no(x, 5, x.town(1));
    Check.told(x, 0, x.town(0));
    Check.told(x, 0, x.judged(0));
  }

  private static void promise2() {
    Check.part("2 status");
    OverNight x = new OverNight();
    Check.no(x, 3, x.read(0, 0));
    // these have none
    x.feed(1, 2, 3, 4, 5);
    x.top();
    x.bottom();
    x.fault(0);
    x.status();
    Check.due(3, x.status());
    Check.told(x, 0, x.many(0));
    Check.no(x, 7, fourMarks(x));
    Check.due(7, x.status());
  }

  private static long fourMarks(OverNight x) {
    x.mark();
    x.mark();
    x.mark();
    return x.mark();
  }

  private static void promises3And4() {
    Check.part("3, 4 top, bottom");
    OverNight x = new OverNight();
    fraction(x, 24, 1, x.west(12, 1, 2));
    // the FRACTION told latest stays till another is told
    Check.no(x, 5, x.west(0, 1, 2));
    Check.no(x, 5, x.speed(0, 2));
    x.many(0);
    Check.due(24, x.top());
    Check.due(1, x.bottom());
    fraction(x, 0, 1, x.speed(5, 5));
  }

  private static void promise5() {
    Check.part("5 tray");
    OverNight x = new OverNight();
    Check.no(x, 1, x.tray(4, 0, 1));
    Check.no(x, 1, x.tray(-1, 0, 61));
    Check.no(x, 1, x.tray(0, 4, -1));
    Check.no(x, 1, x.tray(0, -1, 1));
    Check.no(x, 5, x.tray(0, 0, 61));
    Check.no(x, 5, x.tray(0, 0, Integer.MAX_VALUE));
    Check.no(x, 6, x.tray(0, 0, -1));
    Check.no(x, 6, x.tray(0, 0, Integer.MIN_VALUE));
    Check.no(x, 3, x.read(0, 0));
    Check.told(x, 1, x.tray(0, 3, 60) ? 1 : 0);
    for (int i = 0; i < 60; i++) Check.told(x, 0, x.read(0, i));
    Check.due(true, x.write(0, 59, 7));
    Check.told(x, 7, x.read(0, 59));
    // made anew: all 0; one that can't be leaves the old one
    Check.no(x, 6, x.tray(0, 0, -1));
    Check.told(x, 7, x.read(0, 59));
    Check.due(true, x.tray(0, 3, 60));
    Check.told(x, 0, x.read(0, 59));
    // none at all is a TRAY, too
    Check.due(true, x.tray(3, 0, 0));
    Check.due(0, x.status());
    Check.no(x, 4, x.read(3, 0));
  }

  private static void promises6And7() {
    Check.part("6, 7 write, read");
    OverNight x = new OverNight();
    Check.no(x, 1, x.write(4, 0, 1));
    Check.no(x, 1, x.write(-1, 0, 1));
    Check.no(x, 3, x.write(0, -1, 1));
    Check.no(x, 1, x.read(4, 0));
    Check.no(x, 1, x.read(-1, 0));
    Check.no(x, 3, x.read(0, -1));
    for (int sort = 0; sort < 4; sort++) {
      Check.due(true, x.tray(sort, sort, 3));
      int bits = 8 << sort;
      long most = bits == 64 ? Long.MAX_VALUE : (1L << bits - 1) - 1;
      Check.due(true, x.write(sort, 0, most));
      Check.told(x, most, x.read(sort, 0));
      Check.due(true, x.write(sort, 1, most + 1));
      Check.told(x, -most - 1, x.read(sort, 1));
      Check.due(true, x.write(sort, 2, -1));
      Check.due(0, x.status());
      // a number that is -1 has STATUS 0
      Check.told(x, -1, x.read(sort, 2));
      Check.no(x, 4, x.write(sort, 3, 1));
      Check.no(x, 4, x.write(sort, -1, 1));
      Check.no(x, 4, x.read(sort, 3));
      Check.no(x, 4, x.read(sort, -1));
    }
    Check.due(true, x.write(0, 0, 0x1234567890L));
    Check.told(x, (byte) 0x90, x.read(0, 0));
    Check.due(true, x.write(1, 0, 0x1234567890L));
    Check.told(x, 0x7890, x.read(1, 0));
    Check.due(true, x.write(2, 0, 0x1234567890L));
    Check.told(x, 0x34567890, x.read(2, 0));
  }

  private static void promise8() {
    Check.part("8 pour");
    OverNight x = new OverNight();
    x.tray(0, 1, 5);
    x.tray(1, 1, 4);
    x.tray(2, 2, 5);
    for (int i = 0; i < 5; i++) x.write(0, i, i + 1);
    Check.no(x, 1, x.pour(4, 0, 0, 0, 1));
    Check.no(x, 1, x.pour(0, 0, -1, 0, 1));
    // 1 ahead of 3 whichever it is
    Check.no(x, 1, x.pour(3, 0, 4, 0, 1));
    Check.no(x, 3, x.pour(3, 0, 0, 0, 1));
    Check.no(x, 3, x.pour(0, 0, 3, 0, 1));
    Check.no(x, 11, x.pour(0, 0, 2, 0, -1));
    Check.no(x, 11, x.pour(2, 9, 0, 9, 1));
    Check.no(x, 6, x.pour(0, -1, 1, 9, -1));
    Check.no(x, 4, x.pour(0, -1, 1, 0, 1));
    Check.no(x, 4, x.pour(0, 0, 1, -1, 1));
    Check.no(x, 4, x.pour(0, 3, 1, 0, 3));
    Check.no(x, 4, x.pour(0, 0, 1, 2, 3));
    Check.no(x, 4, x.pour(0, 0, 1, 0, Integer.MAX_VALUE));
    Check.no(x, 4, x.pour(0, Integer.MAX_VALUE, 1, 0, 1));
    Check.no(x, 4, x.pour(0, 6, 1, 0, 0));
    for (int i = 0; i < 4; i++) Check.told(x, 0, x.read(1, i));
    Check.due(true, x.pour(0, 1, 1, 0, 4));
    Check.due(0, x.status());
    for (int i = 0; i < 4; i++) Check.told(x, i + 2, x.read(1, i));
    // the same one: as they were, either way
    Check.due(true, x.pour(0, 0, 0, 1, 4));
    int[] up = {1, 1, 2, 3, 4};
    for (int i = 0; i < 5; i++) Check.told(x, up[i], x.read(0, i));
    Check.due(true, x.pour(0, 2, 0, 0, 3));
    int[] down = {2, 3, 4, 3, 4};
    for (int i = 0; i < 5; i++) Check.told(x, down[i], x.read(0, i));
    // none of them, from behind the last place, is no place too few
    Check.due(true, x.pour(0, 5, 1, 4, 0));
    Check.due(0, x.status());
  }

  private static void promise35() {
    Check.part("35 west");
    OverNight x = new OverNight();
    fraction(x, 24, 1, x.west(24, 0, 1));
    fraction(x, 4, 3, x.west(1, 1, 4));
    fraction(x, 2376, 1, x.west(24, 98, 99));
    fraction(x, 9, 1, x.west(6, 33, 99));
    fraction(x, 1, 1, x.west(1, 0, 99));
    Check.no(x, 5, x.west(0, 1, 2));
    Check.no(x, 5, x.west(25, 1, 2));
    Check.no(x, 5, x.west(1, -1, 2));
    Check.no(x, 5, x.west(1, 1, 1));
    Check.no(x, 5, x.west(1, 2, 1));
    Check.no(x, 5, x.west(1, 0, 0));
    Check.no(x, 5, x.west(1, 99, 100));
    Check.no(x, 5, x.west(1, -2, -1));
    Check.due(1, x.top());
    Check.due(1, x.bottom());
  }

  private static void promise36() {
    Check.part("36 speed");
    OverNight x = new OverNight();
    fraction(x, 1, 2, x.speed(12, 24));
    fraction(x, 3332, 3333, x.speed(3, 9999));
    fraction(x, 0, 1, x.speed(24, 1));
    fraction(x, 0, 1, x.speed(7, 7));
    fraction(x, 1, 8, x.speed(7, 8));
    Check.no(x, 5, x.speed(0, 5));
    Check.no(x, 5, x.speed(25, 5));
    Check.no(x, 5, x.speed(1, 0));
    Check.no(x, 5, x.speed(1, 10000));
    Check.no(x, 5, x.speed(1, -5));
    Check.due(1, x.top());
    Check.due(8, x.bottom());
  }

  private static void promise37() {
    Check.part("37 way");
    OverNight x = new OverNight();
    Check.no(x, 1, x.way(4, 0, 0));
    Check.no(x, 1, x.way(-1, 1, 1));
    Check.no(x, 3, x.way(0, 0, 0));
    x.tray(0, 1, 6);
    // 5 for so many, PLACES; then 4; then 5 for a number
    Check.no(x, 5, x.way(0, 0, 1));
    Check.no(x, 5, x.way(0, 31, 1));
    Check.no(x, 5, x.way(0, 4, 25));
    Check.no(x, 5, x.way(0, 4, 0));
    x.write(0, 0, -1);
    Check.no(x, 4, x.way(0, 4, 1));
    Check.no(x, 5, x.way(0, 3, 1));
    x.write(0, 0, 1000);
    Check.no(x, 5, x.way(0, 1, 1));
    int[] numbers = {10, 8, 5, 0, 0, 0};
    for (int i = 0; i < 6; i++) x.write(0, i, numbers[i]);
    // 10 - 8 = 2, then 7: 3 ahead is reached at the second end, 2 at the first (as far), 8 never
    Check.told(x, 1, x.way(0, 3, 3));
    Check.told(x, 0, x.way(0, 3, 2));
    Check.told(x, 1, x.way(0, 3, 7));
    Check.told(x, -1, x.way(0, 3, 8));
    Check.told(x, -1, x.way(0, 1, 3));
    // only the couples asked for are looked at
    x.write(0, 4, 5000);
    Check.told(x, 1, x.way(0, 2, 3));
    Check.no(x, 5, x.way(0, 3, 3));
    // all 30 couples
    x.tray(1, 3, 60);
    for (int i = 0; i < 30; i++) {
      x.write(1, 2 * i, 999);
      x.write(1, 2 * i + 1, 999);
    }
    Check.told(x, -1, x.way(1, 30, 1));
    x.write(1, 59, 998);
    Check.told(x, 29, x.way(1, 30, 1));
    x.write(1, 59, 1000);
    Check.no(x, 5, x.way(1, 30, 1));
  }
}
