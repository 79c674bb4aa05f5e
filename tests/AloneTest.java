/** Promises 19 to 34: NIGHTS, what can be, ALONE, who is awake. */
public final class AloneTest {
  public static void main(String[] args) {
    promise19();
    promises20And21();
    promise22();
    promise23();
    promise24();
    betweenBeginAndEnd();
    promise25();
    promises26And27();
    promise28();
    promise29();
    promises30And31();
    promises32And33();
    promise34();
    Check.end("AloneTest");
  }

  private static void promise19() {
    Check.part("19 night");
    String town = "thing a wear; thing b send; thing c; person p from 22 to 2;";
    OverNight x = Check.in(town, "a stays worn and not held; b stays sent or held; c stays here a and day > 4;");
    Check.told(x, 0, x.night(7, -1, -1, -1, 0));
    Check.told(x, 1, x.night(7, 0, -1, -1, 0));
    Check.told(x, 0, x.night(7, 0, 0, -1, 0));
    Check.told(x, 2, x.night(7, -1, 1, -1, 0));
    Check.told(x, 2, x.night(7, -1, -1, 1, 0));
    Check.told(x, 7, x.night(7, 0, 1, 1, 5));
    Check.told(x, 3, x.night(7, 0, 1, 1, 4));
    Check.told(x, 7, x.night(7, 0, -1, 1, 12));
    Check.told(x, 7, x.night(7, 0, -1, 1, 999));
    // here: it is there, whether it stays or not; what is not there does not stay
    Check.told(x, 4, x.night(5, -1, -1, -1, 6));
    Check.told(x, 0, x.night(4, -1, 2, -1, 6));
    Check.told(x, 0, x.night(0, -1, -1, -1, 0));
    Check.no(x, 2, x.night(8, -1, -1, -1, 0));
    Check.no(x, 2, x.night(-1, -1, -1, -1, 0));
    Check.no(x, 2, x.night(7, 3, -1, -1, 0));
    Check.no(x, 2, x.night(7, -2, -1, -1, 0));
    Check.no(x, 2, x.night(7, -1, 3, -1, 1000));
    Check.no(x, 2, x.night(7, -1, -1, 3, 0));
    Check.no(x, 5, x.night(7, 1, -1, -1, 1000));
    Check.no(x, 5, x.night(7, -1, -1, -1, -1));
    Check.no(x, 9, x.night(7, 1, -1, -1, 0));
    Check.no(x, 9, x.night(6, 0, -1, -1, 0));
    Check.no(x, 9, x.night(3, -1, 2, -1, 0));
    Check.no(x, 9, x.night(7, -1, -1, 0, 0));
    Check.no(x, 9, x.night(5, -1, -1, 1, 0));
    // nothing without LAW; held only if the town is AWAKE
    Check.told(x, 0, x.law(0));
    Check.told(x, 0, x.night(7, 0, 2, 1, 0));
    x = Check.in(town.replace("22 to 2", "1 to 24"), "c stays held; b stays day = 0 or day = 6;");
    for (int k = 0; k < 3; k++) Check.no(x, 9, x.night(7, -1, k, -1, 0));
    Check.told(x, 2, x.night(7, -1, -1, -1, 0));
    Check.told(x, 0, x.night(7, -1, -1, -1, 1));
    Check.told(x, 2, x.night(7, -1, -1, -1, 13));
  }

  private static final String SOON = "thing a; thing b; thing c; thing d; making m gives a hours 10 hands 3; making n gives b hours 14 hands 1 with a;"
      + " making o gives b hours 15 hands 1 of a; making q gives c hours 1 hands 1 of a b; making r gives d hours 1 hands 1 of d; making s gives b hours 14 hands 2 of a;";

  private static void promises20And21() {
    Check.part("20 soonest");
    OverNight x = Check.in(SOON);
    Check.told(x, 10, x.soonest(0, 0));
    Check.told(x, 24, x.soonest(1, 0));
    Check.no(x, 9, x.soonest(2, 0));
    Check.no(x, 9, x.soonest(3, 0));
    Check.told(x, 0, x.soonest(3, 8));
    Check.told(x, 15, x.soonest(2, 1));
    Check.told(x, 11, x.soonest(2, 2));
    Check.told(x, 1, x.soonest(2, 3));
    Check.no(x, 2, x.soonest(4, 0));
    Check.no(x, 2, x.soonest(-1, 0));
    Check.no(x, 2, x.soonest(0, 16));
    Check.no(x, 2, x.soonest(0, -1));
    Check.part("21 bars");
    Check.told(x, 0, x.bars(0, 0, 0));
    Check.no(x, 8, x.bars(0, 0, 1));
    Check.told(x, 1, x.bars(1, 0, 0));
    Check.told(x, 0, x.bars(1, 0, 1));
    // above 24, too
    Check.told(x, 3, x.bars(2, 0, 0));
    Check.told(x, 1, x.bars(2, 0, 1));
    Check.told(x, 0, x.bars(2, 3, 1));
    Check.told(x, 0, x.bars(2, 2, 1));
    Check.no(x, 8, x.bars(3, 0, 0));
    Check.no(x, 8, x.bars(0, 1, 0));
    Check.no(x, 8, x.bars(0, 1, 1));
    Check.no(x, 2, x.bars(4, 0, 2));
    Check.no(x, 2, x.bars(-1, 0, 0));
    Check.no(x, 2, x.bars(0, 16, 0));
    Check.no(x, 5, x.bars(0, 1, 2));
    Check.no(x, 5, x.bars(0, 1, -1));
    // round in a ring: neither can ever be, but by what is there
    x = Check.in("thing a; thing b; making m gives a hours 1 hands 1 with b; making n gives b hours 1 hands 1 with a;");
    Check.no(x, 9, x.soonest(0, 0));
    Check.no(x, 8, x.bars(0, 0, 0));
    Check.told(x, 1, x.soonest(0, 2));
    // the chain told backward: the last MAKING first
    x = Check.in("thing a; thing b; thing c; making m gives c hours 1 hands 1 of b; making n gives b hours 1 hands 1 of a; making o gives a hours 1 hands 1;");
    Check.told(x, 3, x.soonest(2, 0));
  }

  private static void promise22() {
    Check.part("22 labour");
    OverNight x = Check.in("thing a; thing b; thing c; thing d; making m gives a hours 20 hands 1; making n gives b hours 3 hands 1 of a;"
        + " making o gives a hours 1 hands 2; making q gives c hours 2 hands 1 with b; want a at 5 worth 1 eaten;");
    Check.told(x, 0, x.labour(0, 0));
    Check.told(x, 20, x.labour(1, 0));
    Check.told(x, 23, x.labour(2, 0));
    Check.told(x, 43, x.labour(3, 0));
    Check.told(x, 25, x.labour(6, 0));
    Check.told(x, 45, x.labour(7, 0));
    Check.told(x, 2, x.labour(4, 2));
    Check.told(x, 3, x.labour(2, 1));
    Check.told(x, 23, x.labour(3, 1));
    Check.told(x, 0, x.labour(8, 8));
    Check.told(x, 20, x.labour(9, 8));
    Check.no(x, 8, x.labour(8, 0));
    Check.no(x, 8, x.labour(15, 7));
    Check.no(x, 2, x.labour(16, 0));
    Check.no(x, 2, x.labour(0, 16));
    Check.no(x, 2, x.labour(-1, 0));
    Check.no(x, 2, x.labour(0, -1));
  }

  private static void promise23() {
    Check.part("23 hands");
    OverNight x = Check.in("thing a; thing b; thing c; thing d; making m gives a hours 20 hands 1; making n gives b hours 3 hands 1 of a;"
        + " making o gives a hours 1 hands 2; making q gives c hours 2 hands 3 with b;");
    Check.told(x, 0, x.hands(0));
    // a by o (2), not by m; b by n
    Check.told(x, 2, x.hands(1));
    Check.told(x, 2, x.hands(2));
    Check.told(x, 3, x.hands(4));
    Check.no(x, 9, x.hands(8));
    Check.no(x, 9, x.hands(15));
    Check.no(x, 2, x.hands(16));
    Check.no(x, 2, x.hands(-1));
    x = Check.in("thing a; thing b; thing c; thing d; making m gives a hours 20 hands 1; making n gives b hours 4 hands 1 of a; making o gives c hours 1 hands 1 with a; making q gives d hours 5 hands 1 of a;");
    // 20 + 4 by 24; one more is 2; a is needed twice, and counts once; d is there at 25
    Check.told(x, 1, x.hands(2));
    Check.told(x, 2, x.hands(6));
    Check.told(x, 1, x.hands(5));
    Check.no(x, 9, x.hands(8));
    x = Check.in("thing a; thing b; making m gives a hours 24 hands 3; making n gives b hours 24 hands 2;");
    Check.told(x, 5, x.hands(3));
    // needs of needs, up and down the numbers
    x = Check.in("thing a; thing b; thing c; thing d; making m gives a hours 5 hands 1 of d; making n gives d hours 5 hands 1 with b; making o gives b hours 5 hands 1 of c; making q gives c hours 5 hands 1;");
    Check.told(x, 1, x.hands(1));
    Check.town(x, "thing a; thing b; thing c; thing d; making m gives a hours 7 hands 1 of d; making n gives d hours 5 hands 1 with b; making o gives b hours 5 hands 1 of c; making q gives c hours 7 hands 2;");
    Check.told(x, 2, x.hands(1));
    Check.told(x, 2, x.hands(8));
    Check.told(x, 2, x.hands(4));
  }

  private static final String DAY = "thing a; thing b; making m gives a hours 2 hands 1; making n gives b hours 1 hands 1 of a; making o gives b hours 1 hands 2;"
      + " want a at 2 worth 5; want b at 4 worth 9 eaten; want a at 24 worth 1;";

  private static void promise24() {
    Check.part("24 day");
    OverNight x = Check.in(DAY);
    int[][] due = {{0, 0, 15}, {0, 1, 10}, {0, 2, 1}, {0, 3, 1}, {1, 3, 10}, {1, 2, 15}, {2, 4, 10}, {3, 4, 10}, {0, 22, 1}, {0, 23, 0}, {1, 24, 1}, {2, 24, 0}, {0, 24, 0}, {3, 0, 15}};
    for (int[] d : due) Check.told(x, d[2], x.day(d[0], d[1]));
    Check.no(x, 2, x.day(4, 0));
    Check.no(x, 2, x.day(-1, 25));
    Check.no(x, 5, x.day(0, 25));
    Check.no(x, 5, x.day(0, -1));
    // WANTS of one time one behind the other
    x = Check.in("thing a; want a at 1 worth 5 eaten; want a at 1 worth 7;");
    Check.told(x, 5, x.day(1, 0));
    x = Check.in("thing a; want a at 1 worth 7; want a at 1 worth 5 eaten; want a at 2 worth 100;");
    Check.told(x, 12, x.day(1, 1));
    Check.told(x, 100, x.day(1, 2));
    // told late in the text, wanted early
    x = Check.in("thing a; want a at 9 worth 100; want a at 3 worth 1 eaten;");
    Check.told(x, 1, x.day(1, 0));
    // the NIGHT is not counted, nor the LAW
    x = Check.in(DAY, "a stays not worn;");
    Check.told(x, 15, x.day(0, 0));
  }

  private static void betweenBeginAndEnd() {
    Check.part("24 day, what is wanted while it is made");
    OverNight x = Check.in("thing a; thing b; making n gives b hours 4 hands 1 of a; want a at 2 worth 5; want b at 4 worth 3;");
    // what is used up is gone at once; what is made comes at the end
    Check.told(x, 5, x.day(1, 0));
    Check.told(x, -1, x.step(0));
    Check.told(x, -1, x.step(1));
    Check.told(x, 0, x.step(2));
    Check.told(x, 2, x.stepTime(2));
    Check.told(x, -1, x.step(3));
    Check.told(x, 6, x.stepTime(3));
    x = Check.in("thing a; thing b; making m gives b hours 5 hands 1 with a; want a at 3 worth 2 eaten; want b at 5 worth 1; want b at 4 worth 50;");
    Check.told(x, 3, x.day(1, 0));
    // what is there all the while is wanted at the begin, between, at the end and behind it, once each
    x = Check.in("thing b; thing c; making m gives b hours 2 hands 1; want c at 0 worth 1; want c at 1 worth 7; want b at 2 worth 3; want c at 2 worth 20; want c at 20 worth 100;");
    Check.told(x, 131, x.day(2, 0));
    Check.told(x, 127, x.day(2, 1));
    Check.told(x, 0, x.step(0));
    x = Check.in("thing a; thing b; thing c; making m gives b hours 2 hands 1 with a; want a at 3 worth 1 eaten; want a at 4 worth 9; want b at 5 worth 2; want b at 6 worth 1;");
    Check.told(x, 4, x.day(1, 0));
    Check.told(x, 4, x.day(1, 2));
    Check.told(x, 0, x.step(0));
    Check.told(x, -1, x.step(1));
    Check.told(x, 4, x.stepTime(1));
    Check.told(x, 1, x.day(1, 3));
    Check.told(x, -1, x.step(0));
    Check.told(x, 10, x.day(1, 4));
    // needed, but not used up: eaten at the very time when another begins it is not there
    x = Check.in("thing a; thing b; making m gives b hours 1 hands 1 with a; want a at 3 worth 2 eaten; want b at 4 worth 7; want b at 3 worth 1 eaten;");
    Check.told(x, 3, x.day(1, 0));
    Check.told(x, 2, x.day(1, 3));
  }

  private static void promise25() {
    Check.part("25 days");
    String town = "thing a; making m gives a hours 20 hands 1; want a at 10 worth 6;";
    OverNight x = Check.in(town + "person p from 0 to 0;", "a stays held;");
    Check.told(x, 0, x.days(0, 1, 0));
    Check.told(x, 6, x.days(0, 2, 0));
    Check.told(x, 12, x.days(0, 3, 0));
    Check.told(x, 48, x.days(0, 9, 999));
    Check.told(x, 54, x.days(1, 9, 0));
    Check.told(x, 6, x.days(1, 1, 999));
    Check.no(x, 2, x.days(2, 0, 0));
    Check.no(x, 2, x.days(-1, 1, 0));
    Check.no(x, 5, x.days(0, 0, 0));
    Check.no(x, 5, x.days(0, 10, 0));
    Check.no(x, 5, x.days(0, 1, -1));
    Check.no(x, 5, x.days(0, 1, 1000));
    // nobody is awake over the stroke
    x = Check.in(town, "a stays held;");
    Check.told(x, 6, x.days(1, 2, 0));
    // the DAY's rest by 7
    x = Check.in(town, "a stays day < 3;");
    Check.told(x, 18, x.days(0, 5, 0));
    Check.told(x, 0, x.days(0, 2, 3));
    Check.told(x, 0, x.days(0, 2, 6));
    Check.told(x, 6, x.days(0, 2, 7));
    Check.told(x, 6, x.days(0, 3, 6));
    Check.told(x, 6, x.days(0, 2, 994));
    // made and eaten each DAY, with nothing in the NIGHTS
    x = Check.in("thing a; making m gives a hours 4 hands 1; want a at 5 worth 1 eaten;");
    Check.told(x, 3, x.days(0, 3, 0));
    // DAY 0's ends pay for a worse DAY ahead: 9 tomorrow for 5 today
    x = Check.in("thing a; thing b; making m gives b hours 24 hands 1 of a; want a at 3 worth 5; want b at 0 worth 9;", "b stays not here a;");
    Check.told(x, 5, x.days(1, 1, 0));
    Check.told(x, 9, x.days(1, 2, 0));
  }

  private static void promises26And27() {
    Check.part("26, 27 step, stepTime");
    OverNight x = Check.in(DAY);
    Check.no(x, 8, x.step(0));
    Check.told(x, 15, x.day(0, 0));
    // m 0-2, n 2-3, then till 24 all is worth as much: m 3-5 ahead of n, and so on; no more time for m at 23
    int[] making = {0, 1, 0, 0, 0, 0, 0, 0, 0, 0, 0, 0, 1};
    int[] time = {0, 2, 3, 5, 7, 9, 11, 13, 15, 17, 19, 21, 23};
    // at 23 n would use up a, and a is worth 1 at 24: rest
    making[12] = -1;
    for (int k = 0; k < 13; k++) {
      Check.told(x, making[k], x.step(k));
      Check.told(x, time[k], x.stepTime(k));
    }
    Check.no(x, 8, x.step(13));
    Check.no(x, 8, x.stepTime(13));
    Check.no(x, 8, x.step(-1));
    Check.no(x, 8, x.stepTime(-1));
    // calls that fail, others, another TOWN leave them as they are
    Check.no(x, 5, x.day(0, 25));
    x.price(0, 5, 0);
    x.kept(0, 2);
    x.more(0, 2);
    x.labour(1, 0);
    x.mark();
    Check.town(x, "");
    Check.told(x, 1, x.step(1));
    x.back();
    Check.told(x, 2, x.stepTime(1));
    Check.no(x, 8, x.step(13));
    Check.told(x, 10, x.day(1, 3));
    Check.told(x, 1, x.step(0));
    Check.told(x, 3, x.stepTime(0));
    Check.told(x, 1, x.day(1, 24));
    Check.no(x, 8, x.step(0));
    // by days(): with what the DAYS behind come to
    x = Check.in("thing a; thing b; making m gives b hours 24 hands 1 of a; want a at 3 worth 5; want b at 0 worth 9;", "b stays not here a;");
    Check.told(x, 5, x.days(1, 1, 0));
    Check.told(x, -1, x.step(0));
    Check.told(x, 9, x.days(1, 2, 0));
    Check.told(x, 0, x.step(0));
    Check.no(x, 8, x.step(1));
    // an idle town rests hour by hour
    x = new OverNight();
    Check.told(x, 0, x.day(0, 20));
    for (int k = 0; k < 4; k++) {
      Check.told(x, -1, x.step(k));
      Check.told(x, 20 + k, x.stepTime(k));
    }
    Check.no(x, 8, x.step(4));
  }

  private static void night(OverNight x, int worn, int held, int sent, int stays) {
    Check.told(x, worn, x.firstNight(0));
    Check.told(x, held, x.firstNight(1));
    Check.told(x, sent, x.firstNight(2));
    Check.told(x, stays, x.firstNight(3));
  }

  private static void promise28() {
    Check.part("28 firstNight");
    String town = "thing a wear send; making m gives a hours 20 hands 1; want a at 10 worth 6;";
    OverNight x = Check.in(town + "person p from 0 to 0;", "a stays held or worn or sent;");
    Check.no(x, 8, x.firstNight(0));
    Check.no(x, 5, x.firstNight(4));
    Check.no(x, 5, x.firstNight(-1));
    // NONE first by worn, then by held
    x.days(0, 2, 0);
    night(x, -1, -1, 0, 1);
    Check.law(x, "a stays held or worn;");
    x.days(0, 2, 0);
    night(x, -1, 0, -1, 1);
    Check.law(x, "a stays held and worn;");
    x.days(0, 2, 0);
    night(x, 0, 0, -1, 1);
    // day(), calls that fail and another TOWN leave it; days() of one DAY has none
    x.day(0, 0);
    Check.no(x, 5, x.days(0, 10, 0));
    Check.town(x, "");
    night(x, 0, 0, -1, 1);
    Check.no(x, 5, x.firstNight(4));
    x.days(0, 1, 0);
    Check.no(x, 8, x.firstNight(3));
    x.days(0, 2, 0);
    night(x, -1, -1, -1, 0);
    // what stays though it is worth nothing is told, too; which of two is kept is by what comes of it
    x = Check.in("thing a; thing b wear; thing c wear; want c at 1 worth 2; want b at 1 worth 1;", "a stays day = 3; b stays worn; c stays worn;");
    Check.told(x, 5, x.days(7, 2, 3));
    night(x, 2, -1, -1, 5);
    Check.told(x, 5, x.days(7, 2, 4));
    night(x, 2, -1, -1, 4);
    Check.told(x, 2, x.days(3, 2, 4));
    night(x, 1, -1, -1, 2);
    // by what the DAYS behind that NIGHT come to, not one more: c is worth most on one, b on two
    x = Check.in("thing b wear; thing c wear; want b at 1 worth 2; want c at 1 worth 3;", "b stays worn; c stays worn and day = 0;");
    Check.told(x, 8, x.days(3, 2, 0));
    night(x, 1, -1, -1, 2);
    Check.told(x, 9, x.days(3, 3, 0));
    night(x, 0, -1, -1, 1);
    // worth as much by either: the first THING
    x = Check.in("thing a; thing b wear; thing c wear; want c at 1 worth 2; want b at 1 worth 2;", "b stays worn; c stays worn;");
    Check.told(x, 6, x.days(7, 2, 0));
    night(x, 1, -1, -1, 2);
    // by what is there behind the WANTS of 24
    x = Check.in("thing a wear; thing b wear; want a at 24 worth 3 eaten; want a at 0 worth 3; want b at 0 worth 1;", "a stays worn; b stays worn;");
    Check.told(x, 8, x.days(3, 2, 0));
    night(x, 1, -1, -1, 2);
  }

  private static void promise29() {
    Check.part("29 price");
    OverNight x = Check.in(DAY);
    Check.told(x, 14, x.price(0, 2, 0));
    Check.told(x, 14, x.price(0, 2, 1));
    Check.told(x, 5, x.price(0, 2, 2));
    Check.told(x, 5, x.price(0, 2, 3));
    Check.told(x, 0, x.price(0, 0, 0));
    Check.told(x, 1, x.price(0, 24, 0));
    Check.told(x, 9, x.price(1, 4, 1));
    Check.told(x, 0, x.price(1, 5, 1));
    // of that DAY alone, though a would be worth more tomorrow
    OverNight y = Check.in("thing a; want a at 20 worth 3;", "a stays not worn;");
    Check.told(y, 3, y.price(0, 0, 0));
    Check.told(y, 0, y.price(0, 21, 0));
    Check.no(x, 2, x.price(2, 0, 0));
    Check.no(x, 2, x.price(-1, 25, 0));
    Check.no(x, 2, x.price(0, 0, 4));
    Check.no(x, 2, x.price(0, 0, -1));
    Check.no(x, 5, x.price(0, 25, 0));
    Check.no(x, 5, x.price(0, -1, 0));
  }

  private static void promises30And31() {
    Check.part("30, 31 kept, bestKept");
    OverNight x = Check.in("thing a; thing b; thing c; making m gives b hours 1 hands 1; want b at 0 worth 4; want c at 0 worth 4;", "a stays not worn; b stays not here a;");
    Check.told(x, 0, x.kept(0, 1));
    // with a there b never stays
    Check.told(x, -4, x.kept(0, 2));
    Check.told(x, -8, x.kept(0, 3));
    Check.told(x, 4, x.kept(1, 1));
    Check.told(x, 4, x.kept(1, 2));
    Check.told(x, 4, x.kept(2, 9));
    Check.told(x, 1, x.bestKept(1));
    Check.told(x, 1, x.bestKept(9));
    Check.no(x, 2, x.kept(3, 1));
    Check.no(x, 2, x.kept(-1, 0));
    Check.no(x, 5, x.kept(0, 0));
    Check.no(x, 5, x.kept(0, 10));
    Check.no(x, 5, x.bestKept(0));
    Check.no(x, 5, x.bestKept(10));
    x = Check.in("thing a; thing b; want b at 3 worth 1;");
    Check.told(x, 1, x.bestKept(2));
    x = Check.in("thing a; thing b;");
    Check.told(x, 0, x.bestKept(2));
    Check.town(x, "");
    Check.no(x, 8, x.bestKept(1));
    Check.no(x, 5, x.bestKept(0));
    // from DAY 0 on
    x = Check.in("thing a; want a at 3 worth 1;", "a stays day = 0;");
    Check.told(x, 2, x.kept(0, 2));
    Check.told(x, 2, x.kept(0, 3));
    x = Check.in("thing b; thing a; want a at 3 worth 2; want b at 3 worth 3;", "a stays day = 0;");
    Check.told(x, 1, x.bestKept(2));
    Check.told(x, 0, x.bestKept(1));
    // from time 0 on: one hour less and there is no time to make it
    x = Check.in("thing a; making m gives a hours 24 hands 1; want a at 24 worth 3; want a at 1 worth 1;");
    Check.told(x, 1, x.kept(0, 1));
  }

  private static void promises32And33() {
    Check.part("32, 33 more, bestMore");
    OverNight x = Check.in("thing a; thing b; thing c; making m gives a hours 1 hands 1; making n gives b hours 1 hands 1; making o gives c hours 1 hands 1;"
        + " want a at 0 worth 2; want b at 0 worth 3; want c at 0 worth 3;", "c stays day = 0;");
    Check.told(x, 0, x.more(0, 1));
    Check.told(x, 2, x.more(0, 2));
    Check.told(x, 16, x.more(0, 9));
    Check.told(x, 3, x.more(1, 2));
    // c stays behind DAY 0 and 7 as it is
    Check.told(x, 0, x.more(2, 2));
    Check.told(x, 3, x.more(2, 3));
    Check.told(x, 18, x.more(2, 9));
    Check.told(x, 24, x.more(1, 9));
    Check.told(x, 0, x.bestMore(1));
    Check.told(x, 1, x.bestMore(2));
    Check.told(x, 1, x.bestMore(9));
    Check.no(x, 2, x.more(3, 1));
    Check.no(x, 2, x.more(-1, 0));
    Check.no(x, 5, x.more(0, 0));
    Check.no(x, 5, x.more(0, 10));
    Check.no(x, 5, x.bestMore(0));
    Check.no(x, 5, x.bestMore(10));
    // the LAW itself is as it was
    Check.told(x, 0, x.thing(0, 2));
    Check.told(x, 3, x.days(0, 9, 1) - x.days(0, 7, 1));
    Check.town(x, "");
    Check.no(x, 8, x.bestMore(1));
    Check.no(x, 5, x.bestMore(0));
    // from DAY 0 on: behind it b stays as it is, behind DAY 1 it does not; the last THING can be most, too
    x = Check.in("thing a; thing b; making m gives a hours 1 hands 1; making n gives b hours 1 hands 1; want a at 0 worth 2; want b at 0 worth 3;", "b stays day = 0;");
    Check.told(x, 0, x.bestMore(2));
    Check.told(x, 0, x.bestMore(4));
    Check.told(x, 1, x.bestMore(5));
    Check.law(x, "b stays day = 1;");
    Check.told(x, 1, x.bestMore(2));
    // from nothing on: what can't be made is worth nothing more
    x = Check.in("thing a; want a at 0 worth 2;");
    Check.told(x, 0, x.more(0, 9));
    // one that always stays is still eaten, and used up
    x = Check.in("thing a; making m gives a hours 1 hands 1; want a at 0 worth 2 eaten; want a at 5 worth 1 eaten;");
    Check.told(x, 4, x.more(0, 3));
  }

  private static void promise34() {
    Check.part("34 shift");
    OverNight x = Check.in("person a from 0 to 12; person b from 12 to 0; person c from 6 to 18; person e from 20 to 22;");
    Check.told(x, 0, x.shift(0));
    Check.told(x, 1, x.shift(1));
    Check.told(x, 2, x.shift(1 << 12));
    Check.told(x, 1, x.shift(1 << 7));
    Check.told(x, 4, x.shift(1 << 7 | 1 << 17));
    Check.told(x, 3, x.shift((1 << 24) - 1));
    Check.told(x, 2, x.shift(1 << 21));
    Check.told(x, 3, x.shift(1 | 1 << 23));
    Check.no(x, 5, x.shift(1 << 24));
    Check.no(x, 5, x.shift(-1));
    Check.town(x, "person a from 0 to 12; person b from 13 to 0; person c from 5 to 5;");
    Check.told(x, 4, x.shift((1 << 24) - 1));
    Check.told(x, 4, x.shift(1 << 12));
    Check.town(x, "person a from 0 to 12; person b from 13 to 0;");
    Check.no(x, 9, x.shift(1 << 12));
    Check.told(x, 0, x.shift(0));
  }
}
