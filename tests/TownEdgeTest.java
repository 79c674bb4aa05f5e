/** The edges of what goes on in a town: times, ends, NIGHTS, what is just possible, PLANS; on both sides. */
public final class TownEdgeTest {
  private static final String P = "person p from 0 to 0;";

  public static void main(String[] args) {
    wantsAtBothEnds();
    giveThenWantThenBegin();
    wantsOneBehindTheOther();
    eatenOrNot();
    endsAt24AtMost();
    ofIsGoneWithIsNot();
    withoutLaw();
    asWorn();
    asHeld();
    asSent();
    ifThere();
    restBySeven();
    soonestAtMost24();
    soonestOfAll();
    barsFirstOfSeveral();
    labourAbove24();
    oneHandAlone();
    fewestHands();
    bestOfDays();
    lastNight();
    stepsOfAsMuch();
    nightsOfAsMuch();
    nightOfThatDay();
    firstOfSeveralKept();
    firstOfSeveralMore();
    priceWithAndWithout();
    askedBehindOneAnother();
    kindOne();
    kindTwo();
    kindThree();
    kindFour();
    kindFive();
    kindSix();
    leastKindFirstJob();
    leftCount();
    thereBehindAll();
    daysFromNothingOn();
    drawsBySixteen();
    allWantsAndNothing();
    tellsOfAnotherTown();
    backToTheLatest();
    markChangesNothing();
    nothingOfThatAhead();
    asManyJobs();
    nothingWornHeldSent();
    mayNotBeChosen();
    eightOfAll();
    nightsWithManyChoices();
    Check.end("TownEdgeTest");
  }

  private static int day(String town, int set, int time) { return Check.in(town).day(set, time); }

  // ---- 2.

  private static void wantsAtBothEnds() {
    Check.part("times 0 (the stroke is over) to 24 (it comes)");
    String town = "thing a; making m gives a hours 1 hands 1; want a at 0 worth 5; want a at 24 worth 7;";
    Check.due(12, day(town, 1, 0));
    Check.due(7, day(town, 0, 0));
    Check.due(7, day(town, 1, 1));
    // given at 24 itself
    Check.due(7, day(town, 0, 23));
    Check.due(0, day(town, 0, 24));
    Check.due(7, day(town, 1, 24));
  }

  private static void giveThenWantThenBegin() {
    Check.part("At each time: MAKINGS that end GIVE; WANTS; MAKINGS that begin");
    String town = "thing a; thing b; making m gives a hours 3 hands 1; making n gives b hours 1 hands 1 of a; want a at 3 worth 5;" + P;
    Check.due(5, day(town, 0, 0));
    Check.due(0, day(town, 0, 1));
    OverNight x = Check.in(town, "", "at 0 m by p; at 3 n by p;");
    Check.told(x, 5, x.done(0, 0));
    Check.told(x, 0, x.there(2));
    Check.told(x, 0, x.there(3));
    Check.told(x, 2, x.there(4));
    // one that begins at 2 has it gone at 3
    Check.plan(x, "at 2 n by p;");
    Check.told(x, 0, x.done(1, 0));
    // given and eaten at one time: nothing is left for what begins then
    x = Check.in(town.replace("worth 5", "worth 5 eaten"), "", "at 0 m by p; at 3 n by p;");
    Check.told(x, 6, x.judged(0));
    Check.told(x, 1, x.judged(1));
    Check.told(x, 5, x.done(0, 0));
    Check.told(x, 0, x.there(4));
    // eaten one hour later it is there for it
    x = Check.in(town.replace("at 3 worth 5", "at 4 worth 5 eaten"), "", "at 0 m by p; at 3 n by p;");
    Check.told(x, 0, x.judged(0));
  }

  private static void wantsOneBehindTheOther() {
    Check.part("WANTS of that time, one behind the other");
    Check.due(5, day("thing a; want a at 4 worth 5 eaten; want a at 4 worth 9;", 1, 0));
    Check.due(14, day("thing a; want a at 4 worth 9; want a at 4 worth 5 eaten;", 1, 0));
    Check.due(9, day("thing a; want a at 4 worth 9 eaten; want a at 4 worth 5 eaten;", 1, 0));
    Check.due(14, day("thing a; want a at 4 worth 5 eaten; want a at 3 worth 9;", 1, 0));
    Check.due(5, day("thing a; want a at 4 worth 5 eaten; want a at 5 worth 9;", 1, 0));
  }

  private static void eatenOrNot() {
    Check.part("if the THING is there, its WORTH is had, and it is gone if EATEN");
    for (String eaten : new String[] {"", " eaten"}) {
      OverNight x = Check.in("thing a; thing b; want a at 4 worth 5" + eaten + ";", "", "");
      Check.told(x, 5, x.done(3, 0));
      Check.told(x, 3, x.there(3));
      Check.told(x, eaten.isEmpty() ? 3 : 2, x.there(4));
      Check.told(x, 0, x.done(2, 0));
      Check.told(x, 2, x.there(4));
    }
  }

  private static void endsAt24AtMost() {
    Check.part("One that begins at time t ends at t and its hours, at 24 at most");
    for (int hours : new int[] {1, 2, 23, 24}) {
      String town = "thing a; making m gives a hours " + hours + " hands 1; want a at 24 worth 7;" + P;
      Check.due(7, day(town, 0, 24 - hours));
      Check.due(0, day(town, 0, 25 - hours));
      OverNight x = Check.in(town, "", "at " + (24 - hours) + " m by p;");
      Check.told(x, 0, x.judged(0));
      Check.told(x, 7, x.done(0, 0));
      Check.told(x, 0, x.there(23));
      Check.told(x, 1, x.there(24));
      if (hours > 1) {
        Check.plan(x, "at " + (25 - hours) + " m by p;");
        Check.told(x, 4, x.judged(0));
        Check.told(x, 0, x.done(0, 0));
        Check.told(x, 0, x.there(24));
      }
    }
  }

  private static void ofIsGoneWithIsNot() {
    Check.part("all OF and WITH which they are made must be there; the first are gone");
    String town = "thing a; thing b; thing c; making m gives c hours 2 hands 1 of a with b;" + P;
    OverNight x = Check.in(town, "", "at 3 m by p;");
    int[][] due = {{3, 2, 6}, {7, 6, 6}, {1, 1, 1}, {2, 2, 2}, {0, 0, 0}, {5, 5, 5}};
    for (int[] d : due) {
      Check.told(x, 0, x.done(d[0], 0));
      Check.told(x, d[0], x.there(2));
      Check.told(x, d[1], x.there(3));
      Check.told(x, d[1], x.there(4));
      Check.told(x, d[2], x.there(5));
    }
    // what a MAKING gives may be what it is made of
    x = Check.in("thing a; making m gives a hours 2 hands 1 of a;" + P, "", "at 3 m by p;");
    Check.told(x, 0, x.done(1, 0));
    Check.told(x, 0, x.there(3));
    Check.told(x, 0, x.there(4));
    Check.told(x, 1, x.there(5));
  }

  private static OverNight lawful(String law) { return Check.in("thing a wear send; thing b wear send; thing c;" + P, law); }

  private static void withoutLaw() {
    Check.part("A THING without LAW doesn't stay; one that is not there doesn't");
    OverNight x = lawful("b stays not day = 6;");
    Check.told(x, 2, x.night(7, -1, -1, -1, 0));
    Check.told(x, 0, x.night(5, 0, 0, 0, 0));
    Check.told(x, 0, x.night(7, -1, -1, -1, 6));
    Check.law(x, "");
    Check.told(x, 0, x.night(7, 0, 1, 1, 0));
  }

  private static void asWorn() {
    Check.part("worn: it is the one; NONE: none");
    OverNight x = lawful("a stays worn; b stays not worn;");
    Check.told(x, 2, x.night(3, -1, -1, -1, 0));
    Check.told(x, 3, x.night(3, 0, -1, -1, 0));
    Check.told(x, 0, x.night(3, 1, -1, -1, 0));
    Check.told(x, 2, x.night(3, -1, 0, 0, 0));
  }

  private static void asHeld() {
    Check.part("held: it is the one; NONE: none");
    OverNight x = lawful("a stays held; b stays not held;");
    Check.told(x, 2, x.night(3, -1, -1, -1, 0));
    Check.told(x, 3, x.night(3, -1, 0, -1, 0));
    Check.told(x, 0, x.night(3, -1, 1, -1, 0));
    Check.told(x, 2, x.night(3, 0, -1, 0, 0));
    // any THING may be held, and one may be worn, held and sent at once
    Check.told(x, 2, x.night(7, -1, 2, -1, 0));
    Check.law(x, "a stays worn and held and sent; b stays worn or held or sent;");
    Check.told(x, 1, x.night(3, 0, 0, 0, 0));
    Check.told(x, 2, x.night(3, 0, 0, 1, 0));
    Check.told(x, 2, x.night(3, 0, 1, 0, 0));
    Check.told(x, 2, x.night(3, 1, 0, 0, 0));
    Check.told(x, 2, x.night(3, 1, 1, 1, 0));
  }

  private static void asSent() {
    Check.part("sent: it is the one; NONE: none");
    OverNight x = lawful("a stays sent; b stays not sent;");
    Check.told(x, 2, x.night(3, -1, -1, -1, 0));
    Check.told(x, 3, x.night(3, -1, -1, 0, 0));
    Check.told(x, 0, x.night(3, -1, -1, 1, 0));
    Check.told(x, 2, x.night(3, 0, 0, -1, 0));
  }

  private static void ifThere() {
    Check.part("here: that one is there");
    OverNight x = lawful("a stays here c; b stays not here c; c stays here c;");
    Check.told(x, 5, x.night(7, -1, -1, -1, 0));
    Check.told(x, 2, x.night(3, -1, -1, -1, 0));
    Check.told(x, 4, x.night(4, -1, -1, -1, 0));
    // there, though it doesn't stay
    Check.law(x, "a stays here b;");
    Check.told(x, 1, x.night(3, -1, -1, -1, 0));
    Check.told(x, 0, x.night(1, -1, -1, -1, 0));
  }

  private static void restBySeven() {
    Check.part("day: the DAY's rest by 7");
    OverNight x = lawful("a stays day = 0; b stays day > 5; c stays day < 1;");
    int[][] due = {{0, 5}, {1, 0}, {5, 0}, {6, 2}, {7, 5}, {8, 0}, {13, 2}, {14, 5}, {993, 2}, {994, 5}, {995, 0}, {999, 0}};
    for (int[] d : due) Check.told(x, d[1], x.night(7, -1, -1, -1, d[0]));
    // by days(): the NIGHT behind DAY 999 is one of rest 5, that behind DAY 1000 of 6
    OverNight y = Check.in("thing a; want a at 1 worth 1;", "a stays day = 5;");
    Check.told(y, 2, y.days(1, 2, 999));
    Check.told(y, 2, y.days(1, 3, 999));
    Check.law(y, "a stays day > 4;");
    Check.told(y, 3, y.days(1, 3, 999));
    Check.told(y, 3, y.days(1, 9, 999));
  }

  private static void soonestAtMost24() {
    Check.part("SOONEST: above 24 it can't be");
    String town = "thing a; thing b; thing c; making m gives a hours 12 hands 3; making n gives b hours 12 hands 1 of a; making o gives c hours 13 hands 1 with a;";
    OverNight x = Check.in(town);
    Check.told(x, 24, x.soonest(1, 0));
    Check.no(x, 9, x.soonest(2, 0));
    Check.told(x, 13, x.soonest(2, 1));
    Check.told(x, 0, x.soonest(2, 4));
    Check.told(x, 0, x.soonest(2, 7));
    Check.told(x, 2, x.bars(2, 0, 0));
    Check.told(x, 0, x.bars(2, 0, 1));
    Check.told(x, 3, x.hands(2));
    Check.no(x, 9, x.hands(4));
    Check.no(x, 9, x.hands(6));
    // never, far above 24, and far above is told by BARS
    Edge far = new Edge(() -> Check.in("thing a; thing b; thing c; thing d; making m gives a hours 24 hands 1; making n gives b hours 24 hands 1 of a;"
        + "making o gives c hours 24 hands 1 of b; making r gives d hours 1 hands 1 of d;"));
    far.well(24, y -> y.soonest(0, 0));
    far.refused(9, y -> y.soonest(1, 0));
    far.refused(9, y -> y.soonest(2, 0));
    far.refused(9, y -> y.soonest(3, 0));
    far.well(2, y -> y.bars(2, 0, 0));
    far.well(1, y -> y.bars(2, 0, 1));
    far.refused(8, y -> y.bars(3, 0, 0));
    far.well(72, y -> y.labour(4, 0));
  }

  private static void soonestOfAll() {
    Check.part("the least time by all MAKINGS: when the last of all it needs can be there, and its hours");
    OverNight x = Check.in("thing a; thing b; thing c; making m gives a hours 4 hands 1; making n gives b hours 6 hands 1; making o gives c hours 2 hands 1 of a with b;"
        + "making q gives c hours 5 hands 1 with a; making r gives c hours 9 hands 1;");
    Check.told(x, 8, x.soonest(2, 0));
    Check.told(x, 5, x.soonest(2, 1));
    Check.told(x, 2, x.soonest(2, 3));
    Check.told(x, 6, x.soonest(2, 2));
  }

  private static void barsFirstOfSeveral() {
    Check.part("BARS: the first MAKING by which it is soonest, of several the first THING");
    String town = "thing a; thing b; thing c; making l gives c hours 9 hands 1; making m gives a hours 4 hands 1; making n gives b hours 4 hands 1;"
        + "making o gives c hours 4 hands 1 with b; making q gives c hours 4 hands 1 of b with a; making r gives c hours 8 hands 1;";
    OverNight x = Check.in(town);
    Check.told(x, 3, x.bars(2, 0, 0));
    Check.told(x, 1, x.bars(2, 0, 1));
    x = Check.in(town.replace("with b;", "with b a;"));
    Check.told(x, 0, x.bars(2, 0, 1));
    Check.told(x, 1, x.bars(2, 1, 1));
    Check.told(x, 0, x.bars(2, 2, 1));
    Check.told(x, 0, x.bars(2, 3, 1));
    x = Check.in(town.replace("hours 9", "hours 8"));
    Check.told(x, 0, x.bars(2, 0, 0));
    Check.no(x, 8, x.bars(2, 0, 1));
    x = Check.in(town.replace("hours 9", "hours 7"));
    Check.told(x, 0, x.bars(2, 0, 0));
    Check.no(x, 8, x.bars(2, 4, 0));
    Check.no(x, 8, x.bars(2, 4, 1));
  }

  // ---- 3.

  private static void labourAbove24() {
    Check.part("LABOUR: the fewest hours till all of it is there at one time (it may be above 24)");
    OverNight x = Check.in("thing a; thing b; making m gives a hours 24 hands 1; making n gives b hours 24 hands 1 of a; making o gives b hours 1 hands 2; want a at 3 worth 1 eaten;");
    Check.told(x, 24, x.labour(1, 0));
    Check.told(x, 48, x.labour(2, 0));
    Check.told(x, 72, x.labour(3, 0));
    Check.told(x, 0, x.labour(3, 3));
    Check.told(x, 24, x.labour(3, 2));
    Check.told(x, 48, x.labour(3, 1));
    Check.told(x, 0, x.labour(0, 3));
    // at one time: a is gone for b, and nothing gives it again
    OverNight y = Check.in("thing a; thing b; making n gives b hours 1 hands 1 of a;");
    Check.told(y, 1, y.labour(2, 1));
    Check.no(y, 8, y.labour(3, 1));
    OverNight z = Check.in("thing a; thing b; making n gives b hours 1 hands 1 with a;");
    Check.told(z, 1, z.labour(3, 1));
  }

  private static void oneHandAlone() {
    Check.part("ALONE somebody does MAKINGS of 1 hand");
    for (int hands = 1; hands <= 3; hands++) {
      OverNight x = Check.in("thing a; making m gives a hours 1 hands " + hands + "; want a at 5 worth 3;");
      Check.told(x, hands == 1 ? 3 : 0, x.day(0, 0));
      Check.told(x, hands == 1 ? 0 : -1, x.step(0));
      if (hands == 1) Check.told(x, 1, x.labour(1, 0)); else Check.no(x, 8, x.labour(1, 0));
      Check.told(x, 1, x.soonest(0, 0));
      Check.told(x, hands, x.hands(1));
    }
  }

  private static void fewestHands() {
    Check.part("FEWEST HANDS: all hours times hands, by 24, rounded up, and at least the most hands of one of these");
    // one MAKING of 12 hours, one of so many more
    int[][] due = {{11, 1, 1}, {12, 1, 1}, {13, 1, 2}, {24, 1, 2}, {6, 2, 2}, {12, 3, 3}, {13, 3, 3}, {20, 3, 3}, {21, 3, 4}, {1, 3, 3}, {18, 2, 2}, {19, 2, 3}};
    for (int[] d : due) {
      OverNight x = Check.in("thing a; thing b; making m gives a hours 12 hands 1; making n gives b hours " + d[0] + " hands " + d[1] + ";");
      Check.told(x, d[2], x.hands(3));
      Check.told(x, 1, x.hands(1));
      Check.told(x, d[1], x.hands(2));
    }
    // what is needed for others does not count
    OverNight other = Check.in("thing a; thing b; thing c; making m gives c hours 1 hands 1 of b; making n gives b hours 20 hands 3; making o gives a hours 1 hands 1;");
    Check.told(other, 1, other.hands(1));
    Check.told(other, 3, other.hands(4));
    // each THING once, though two need it; by the first MAKING of those by which it is soonest, though a later one takes fewer hands
    OverNight x = Check.in("thing a; thing b; thing c; making m gives a hours 8 hands 3; making mm gives a hours 8 hands 1; making n gives b hours 1 hands 1 of a; making o gives c hours 1 hands 1 of a;");
    Check.told(x, 3, x.hands(6));
    x = Check.in("thing a; thing b; thing c; making m gives a hours 8 hands 2; making n gives b hours 4 hands 1 of a; making o gives c hours 4 hands 1 of a;");
    Check.told(x, 2, x.hands(6));
    x = Check.in("thing a; thing b; thing c; making m gives a hours 16 hands 1; making n gives b hours 4 hands 1 of a; making o gives c hours 4 hands 1 of a;");
    Check.told(x, 1, x.hands(6));
    x = Check.in("thing a; thing b; thing c; making m gives a hours 16 hands 1; making n gives b hours 4 hands 1 of a; making o gives c hours 5 hands 1 of a;");
    Check.told(x, 2, x.hands(6));
  }

  private static void bestOfDays() {
    Check.part("BEST of n DAYS (1 to 9)");
    OverNight x = Check.in("thing a; thing b; making m gives a hours 24 hands 1; want a at 0 worth 5; want b at 7 worth 999;", "a stays not worn; b stays day < 6 or day = 6;");
    for (int n = 1; n <= 9; n++) {
      Check.told(x, 5 * (n - 1), x.days(0, n, 7));
      Check.told(x, 999 * n, x.days(2, n, 0) - x.days(0, n, 0));
    }
    Check.told(x, 0, x.days(0, 1, 999));
    // as much as can be had in all
    String wants = "want a at 0 worth 999;".repeat(8);
    OverNight y = Check.in("thing a;" + wants, "a stays not worn;");
    Check.told(y, 8 * 999, y.day(1, 0));
    Check.told(y, 9 * 8 * 999, y.days(1, 9, 0));
    Check.told(y, 9 * 8 * 999, y.kept(0, 9));
  }

  private static void lastNight() {
    Check.part("at the last NIGHT's end nothing counts; between a THING is there that stays");
    OverNight x = Check.in("thing a; making m gives a hours 1 hands 1; want a at 0 worth 5;", "a stays not worn;");
    Check.told(x, 0, x.days(0, 1, 0));
    Check.told(x, 5, x.days(0, 2, 0));
    Check.told(x, 10, x.days(0, 3, 0));
    Check.told(x, 5, x.days(1, 1, 0));
    OverNight y = Check.in("thing a; making m gives a hours 1 hands 1; want a at 0 worth 5;");
    Check.told(y, 0, y.days(0, 9, 0));
    Check.told(y, 5, y.days(1, 9, 0));
    // nothing is there in any NIGHT, and each DAY is had all the same
    OverNight z = Check.in("thing a; making m gives a hours 24 hands 1; want a at 24 worth 5 eaten;", "a stays not worn;");
    for (int n = 1; n <= 9; n++) Check.told(z, 5 * n, z.days(0, n, 0));
  }

  private static void stepsOfAsMuch() {
    Check.part("STEPS: of all that come to as much the first MAKING, to rest behind all");
    // m, n, rest: all come to 0
    OverNight x = Check.in("thing a; thing b; making m gives a hours 20 hands 1; making n gives b hours 3 hands 1;");
    Check.told(x, 0, x.day(0, 0));
    int[][] due = {{0, 0}, {1, 20}, {-1, 23}};
    for (int k = 0; k < 3; k++) {
      Check.told(x, due[k][0], x.step(k));
      Check.told(x, due[k][1], x.stepTime(k));
    }
    Check.no(x, 8, x.step(3));
    // at 4 m ends at 24, at 5 it would end behind; n at 21, not at 22
    x.day(0, 4);
    Check.told(x, 0, x.step(0));
    x.day(0, 5);
    Check.told(x, 1, x.step(0));
    x.day(0, 21);
    Check.told(x, 1, x.step(0));
    x.day(0, 22);
    Check.told(x, -1, x.step(0));
    Check.told(x, -1, x.step(1));
    Check.no(x, 8, x.step(2));
    // both come to more than to rest: the one that comes to most, of several the first
    int[][] worth = {{5, 5, 0}, {6, 5, 0}, {5, 6, 1}, {1, 1, 0}};
    for (int[] w : worth) {
      OverNight z = Check.in("thing a; thing b; making m gives a hours 3 hands 1; making n gives b hours 3 hands 1; want a at 3 worth " + w[0] + "; want b at 3 worth " + w[1] + ";");
      Check.told(z, Math.max(w[0], w[1]), z.day(0, 0));
      Check.told(z, w[2], z.step(0));
      Check.told(z, 0, z.day(0, 1));
    }
    // one that comes to less is none, however first; one that comes to more goes ahead
    OverNight y = Check.in("thing a; thing b; making m gives a hours 3 hands 1 of b; making n gives b hours 3 hands 1; want b at 5 worth 2;");
    Check.told(y, 2, y.day(2, 3));
    Check.told(y, 1, y.step(0));
    Check.told(y, 2, y.day(2, 0));
    Check.told(y, 1, y.step(0));
    Check.told(y, 3, y.stepTime(1));
    // what another MAKING would have given is not there behind the one that was begun: o has no b at 2
    OverNight v = Check.in("thing a; thing b; thing c; making m gives a hours 2 hands 1; making n gives b hours 2 hands 1; making o gives c hours 1 hands 1 of b;"
        + "want a at 2 worth 20; want c at 3 worth 9;");
    Check.told(v, 20, v.day(0, 0));
    Check.told(v, 0, v.step(0));
    Check.told(v, 0, v.step(1));
    Check.told(v, 2, v.stepTime(1));
    Check.told(v, 29, v.day(2, 0));
    Check.told(v, 0, v.step(0));
    Check.told(v, 2, v.step(1));
  }

  private static void nightsOfAsMuch() {
    Check.part("First NIGHT: the first by worn (NONE ahead of THING 0 ..), then held, then sent");
    String town = "thing a wear send; thing b wear send; want a at 1 worth 5; want b at 1 worth %;" + P;
    String[][] due = {
      // LAW, WORTH of b: worn, held, sent, what STAYS
      {"a stays worn; b stays worn;", "5", "0 -1 -1 1"}, {"a stays worn; b stays worn;", "6", "1 -1 -1 2"}, {"a stays worn; b stays worn;", "4", "0 -1 -1 1"},
      {"a stays held; b stays held;", "5", "-1 0 -1 1"}, {"a stays held; b stays held;", "6", "-1 1 -1 2"},
      {"a stays sent; b stays sent;", "5", "-1 -1 0 1"}, {"a stays sent; b stays sent;", "6", "-1 -1 1 2"},
      {"a stays worn or held; b stays worn or sent;", "5", "-1 0 1 3"}, {"a stays worn or sent; b stays held or worn;", "5", "-1 1 0 3"},
      {"a stays worn or held or sent; b stays worn or held or sent;", "5", "-1 0 1 3"}, {"a stays worn and held; b stays sent;", "5", "0 0 1 3"},
      {"a stays not worn; b stays not held;", "5", "-1 -1 -1 3"}, {"", "5", "-1 -1 -1 0"}, {"a stays worn and sent; b stays worn and sent;", "5", "0 -1 0 1"},
    };
    for (String[] d : due) {
      OverNight x = Check.in(town.replace("%", d[1]), d[0]);
      x.days(3, 2, 0);
      String[] want = d[2].split(" ");
      for (int i = 0; i < 4; i++) Check.told(x, Integer.parseInt(want[i]), x.firstNight(i));
    }
  }

  private static void nightOfThatDay() {
    Check.part("First NIGHT: with what the DAYS behind come to, of what is there");
    // c is worth 3 on the DAY behind, b 2, though b would come to more on one DAY more
    OverNight x = Check.in("thing b wear; thing c wear; making m gives c hours 24 hands 1 with b; want b at 5 worth 2; want c at 5 worth 3 eaten;", "b stays worn; c stays worn;");
    Check.told(x, 5, x.days(1, 2, 0));
    Check.told(x, 1, x.firstNight(0));
    Check.told(x, 2, x.firstNight(3));
    // what comes at 24 is none of the WANTS of 23, but of those of 24
    OverNight y = Check.in("thing a; making m gives a hours 24 hands 1; want a at 23 worth 1 eaten; want a at 0 worth 5;", "a stays not worn;");
    Check.told(y, 6, y.days(0, 2, 0));
    Check.told(y, 1, y.firstNight(3));
    // nor is there what would have been made in the HOUR of rest ahead of it, of what is wanted on the DAY behind
    y = Check.in("thing a; thing b; making m gives b hours 1 hands 1 of a; want a at 0 worth 9;", "a stays not worn; b stays not worn;");
    Check.told(y, 18, y.days(1, 2, 0));
    Check.told(y, -1, y.step(23));
    Check.told(y, 1, y.firstNight(3));
    y = Check.in("thing a; making m gives a hours 24 hands 1; want a at 24 worth 1 eaten; want a at 0 worth 5;", "a stays not worn;");
    Check.told(y, 1, y.days(0, 1, 0));
    Check.told(y, 2, y.days(0, 2, 0));
    Check.told(y, 0, y.firstNight(3));
    // worn, held, sent to be rid of it: b never stays with a
    for (String how : new String[] {"worn", "held", "sent"}) {
      OverNight z = Check.in("thing a wear send; thing b; making m gives b hours 1 hands 1; want b at 0 worth 7;" + P, "a stays not " + how + "; b stays not here a;");
      Check.told(z, 7, z.days(1, 3, 0));
      Check.told(z, how.equals("worn") ? 0 : -1, z.firstNight(0));
      Check.told(z, how.equals("held") ? 0 : -1, z.firstNight(1));
      Check.told(z, how.equals("sent") ? 0 : -1, z.firstNight(2));
      Check.told(z, 0, z.firstNight(3));
      Check.told(z, 0, z.days(1, 2, 0));
      Check.told(z, -1, z.firstNight(0));
      Check.told(z, 1, z.firstNight(3));
    }
  }

  private static void firstOfSeveralKept() {
    Check.part("KEPT: the THING that is worth most (of several the first)");
    String town = "thing a; thing b; thing c; want a at 1 worth 5; want b at 1 worth %; want c at 1 worth $;";
    int[][] due = {{5, 5, 0}, {6, 6, 1}, {6, 7, 2}, {4, 5, 0}, {5, 6, 2}, {4, 4, 0}};
    for (int[] d : due) {
      OverNight x = Check.in(town.replace("%", "" + d[0]).replace("$", "" + d[1]));
      Check.told(x, d[2], x.bestKept(1));
      Check.told(x, d[2], x.bestKept(9));
      Check.told(x, d[0], x.kept(1, 1));
    }
    // worth nothing at all, and less than nothing: of several the first
    OverNight y = Check.in("thing a; thing b;");
    Check.told(y, 0, y.bestKept(3));
    y = Check.in("thing a; thing b; thing c; making m gives c hours 1 hands 1; want c at 0 worth 4;", "c stays not (here a or here b);");
    Check.told(y, -4, y.kept(0, 2));
    Check.told(y, -4, y.kept(1, 2));
    Check.told(y, 2, y.bestKept(2));
    Check.told(y, 0, y.kept(0, 1));
  }

  private static void firstOfSeveralMore() {
    Check.part("MORE: the THING with which that is most (of several the first)");
    String town = "thing a; thing b; making m gives a hours 1 hands 1; making n gives b hours 1 hands 1; want a at 0 worth 5; want b at 0 worth %;";
    int[][] due = {{4, 0}, {5, 0}, {6, 1}};
    for (int[] d : due) {
      OverNight x = Check.in(town.replace("%", "" + d[0]));
      Check.told(x, d[1], x.bestMore(2));
      Check.told(x, 5, x.more(0, 2));
      Check.told(x, d[0], x.more(1, 2));
      Check.told(x, 0, x.more(1, 1));
      Check.told(x, 0, x.bestMore(1));
    }
  }

  private static void priceWithAndWithout() {
    Check.part("PRICE: BEST from there on with it less that without it, by a set");
    OverNight x = Check.in("thing a; thing b; making m gives b hours 1 hands 1 of a; want a at 5 worth 3; want b at 6 worth 4; want b at 24 worth 100 eaten;");
    for (int set = 0; set < 4; set++) Check.told(x, (set & 2) == 0 ? 107 : 3, x.price(0, 5, set));
    Check.told(x, 0, x.price(0, 24, 3));
    Check.told(x, 100, x.price(1, 24, 0));
    Check.told(x, 100, x.price(0, 23, 0));
    Check.told(x, 0, x.price(0, 23, 2));
    Check.told(x, 104, x.price(1, 6, 0));
    Check.told(x, 4, x.price(1, 6, 1));
  }

  /** So many questions, each of its own kind. */
  private static int alone(OverNight x, int which) {
    switch (which) {
      case 0: return x.kept(0, 3);
      case 1: return x.kept(1, 3);
      case 2: return x.bestKept(3);
      case 3: return x.more(0, 3);
      case 4: return x.more(1, 3);
      case 5: return x.bestMore(3);
      case 6: return x.days(1, 3, 2);
      case 7: return x.days(2, 2, 6);
      case 8: return x.day(3, 4);
      case 9: return x.price(0, 5, 2);
      case 10: return x.labour(3, 0);
      case 11: return x.night(3, 0, -1, -1, 2);
      case 12: return x.bars(1, 0, 1);
      default: return x.hands(1);
    }
  }

  private static void askedBehindOneAnother() {
    Check.part("ALONE: a call tells the same whichever was asked ahead of it, MORE always stays for its own call alone");
    String town = "thing a wear; thing b; making m gives a hours 24 hands 1; making n gives b hours 9 hands 1 with a; want a at 0 worth 5; want b at 9 worth 7; want a at 24 worth 1;";
    String law = "a stays worn and day < 1; b stays day = 0;";
    int[] due = new int[14];
    for (int i = 0; i < due.length; i++) {
      OverNight x = Check.in(town, law);
      due[i] = alone(x, i);
      Check.due(0, x.status());
    }
    Check.due(true, due[3] > 0 && due[4] > 0 && due[0] != due[1]);
    for (int ahead = 0; ahead < due.length; ahead++) {
      OverNight x = Check.in(town, law);
      for (int i = 0; i < due.length; i++) {
        Check.told(x, due[ahead], alone(x, ahead));
        Check.told(x, due[i], alone(x, i));
      }
    }
    // a that always stayed would be worth 3 on each DAY
    OverNight y = Check.in("thing a; thing b; want a at 0 worth 3; want b at 0 worth 4;");
    for (int round = 0; round < 2; round++) {
      if (round == 0) Check.told(y, 0, y.more(0, 3)); else Check.told(y, 0, y.bestMore(3));
      Check.told(y, 3, y.kept(0, 3));
      Check.told(y, 1, y.bestKept(3));
      Check.told(y, 3, y.days(1, 3, 0));
      Check.told(y, 3, y.day(1, 0));
      Check.told(y, 3, y.price(0, 0, 2));
    }
  }

  // ---- 5.

  private static final String JUDGED = "thing a wear; thing b send; making m gives a hours 3 hands 1; making n gives b hours 3 hands 2; making o gives b hours 3 hands 3;"
      + "person p from 6 to 12; person q from 20 to 2; person r from 0 to 24; person s from 5 to 5;";

  private static void judged(int kind, int job, String plan) {
    OverNight x = Check.in(JUDGED, "", plan);
    Check.told(x, kind, x.judged(0));
    if (kind == 0) Check.no(x, 8, x.judged(1)); else Check.told(x, job, x.judged(1));
    if (kind != 6) Check.no(x, 8, x.judged(2));
  }

  private static void kindOne() {
    Check.part("JUDGED 1: not as many PEOPLE as hands");
    judged(0, 0, "at 6 m by r;");
    judged(1, 0, "at 6 m by r s;");
    judged(1, 0, "at 6 n by r;");
    judged(0, 0, "at 6 n by r s;");
    judged(1, 0, "at 6 n by r s p;");
    judged(1, 0, "at 6 o by r s;");
    judged(0, 0, "at 6 o by r s p;");
    judged(1, 0, "at 6 o by r s p q;");
  }

  private static void kindTwo() {
    Check.part("JUDGED 2: one is not AWAKE in all its HOURS");
    judged(2, 0, "at 5 m by p;");
    judged(0, 0, "at 6 m by p;");
    judged(0, 0, "at 9 m by p;");
    judged(2, 0, "at 10 m by p;");
    judged(2, 0, "at 19 m by q;");
    judged(0, 0, "at 20 m by q;");
    judged(0, 0, "at 21 m by q;");
    judged(2, 0, "at 0 m by q;");
    judged(0, 0, "at 0 m by r;");
    judged(0, 0, "at 21 m by r;");
    // one of several is enough
    judged(2, 0, "at 10 n by r p;");
    judged(2, 0, "at 10 n by p s;");
    judged(0, 0, "at 9 n by r p;");
  }

  private static void kindThree() {
    Check.part("JUDGED 3: one is at a JOB ahead of it in the text in one of these HOURS");
    judged(3, 1, "at 6 m by r; at 8 m by r;");
    judged(0, 0, "at 6 m by r; at 9 m by r;");
    judged(3, 1, "at 8 m by r; at 6 m by r;");
    judged(0, 0, "at 9 m by r; at 6 m by r;");
    judged(3, 1, "at 8 m by r; at 8 m by r;");
    judged(0, 0, "at 8 m by r; at 8 m by s;");
    judged(3, 1, "at 8 n by r s; at 9 n by p s;");
    judged(3, 2, "at 6 m by r; at 6 m by s; at 8 n by p s;");
    judged(0, 0, "at 6 m by r; at 6 m by s; at 9 n by r s;");
    // a JOB ahead that can't be itself counts, too
    judged(1, 0, "at 6 n by r; at 8 m by r;");
    OverNight x = Check.in(JUDGED, "", "at 6 n by r; at 8 m by r;");
    Check.told(x, 0, x.done(0, 0));
    Check.told(x, 0, x.there(24));
    Check.plan(x, "at 6 n by r; at 9 m by r;");
    Check.told(x, 0, x.done(0, 0));
    Check.told(x, 1, x.there(24));
  }

  private static void kindFour() {
    Check.part("JUDGED 4: it would end behind 24");
    judged(0, 0, "at 21 m by s;");
    judged(4, 0, "at 22 m by s;");
    judged(4, 0, "at 23 m by s;");
    judged(4, 0, "at 22 o by q r s;");
    // behind 24 there is no HOUR in which one could be at it, or had to be AWAKE
    judged(4, 0, "at 23 m by r;");
    judged(4, 0, "at 23 m by q; at 0 m by r;");
    judged(4, 1, "at 0 m by s; at 23 m by s;");
  }

  private static void kindFive() {
    Check.part("JUDGED 5: what is to be worn, sent may not be; held: the town isn't AWAKE");
    judged(6, 0, "wear a;");
    judged(5, 0, "wear b;");
    judged(6, 0, "send b;");
    judged(5, 0, "send a;");
    judged(6, 0, "hold a;");
    OverNight x = Check.in("thing a wear send; person p from 23 to 0;", "", "hold a;");
    Check.told(x, 5, x.judged(0));
    x = Check.in("thing a wear send; person p from 23 to 1;", "", "hold a;");
    Check.told(x, 6, x.judged(0));
    x = Check.in("thing a; making m gives a hours 1 hands 1;" + P, "a stays held;", "at 23 m by p; hold a;");
    Check.told(x, 0, x.judged(0));
    Check.told(x, 0, x.done(0, 0));
    Check.told(x, 1, x.there(25));
  }

  private static void kindSix() {
    Check.part("JUDGED 6: the first by time, then in the text, for which a THING is not there; the NIGHT behind all others");
    String town = "thing a wear; thing b wear; thing c; making m gives a hours 2 hands 1; making n gives b hours 2 hands 1 of a; making o gives c hours 2 hands 1 of a with b;"
        + "making v gives c hours 2 hands 1 of b with a;" + P + "person q from 0 to 0; want a at 7 worth 1 eaten;";
    String[] due = {
      "0 - -: at 2 m by p; at 4 n by p;", "6 1 0: at 2 m by p; at 3 n by q;", "6 0 0: at 3 n by q; at 2 m by p;", "6 1 0: at 5 o by p; at 4 n by q;",
      "6 0 0: at 4 o by p; at 4 n by q;", "6 0 0: at 4 v by p; at 4 n by q;", "6 1 1: at 0 m by p; at 2 o by p;", "6 1 1: at 0 m by p; at 2 v by p;",
      // eaten at 7: there at 6, not at 7
      "0 - -: at 4 m by p; at 6 n by p;", "6 1 0: at 4 m by p; at 7 n by p;", "6 1 0: at 5 m by p; at 7 n by p;", "0 - -: at 6 m by p; at 8 n by p;",
      // used up by the one ahead in the text, at one time
      "6 2 0: at 0 m by p; at 2 n by p; at 2 n by q;", "0 - -: at 8 m by p; wear a;", "6 0 1: wear b; at 8 m by p;", "6 1 0: wear b; at 8 n by p;",
      "6 2 0: at 8 m by p; at 10 n by p; wear a;", "0 - -: at 8 m by p; at 10 n by p; wear b;", "0 - -: at 22 m by p; wear a; hold a;", "6 0 0: wear a;",
      "6 1 0: at 5 m by p; wear a;", "0 - -: at 6 m by p; wear a;",
    };
    for (String d : due) {
      Check.part("JUDGED 6: " + d);
      OverNight x = Check.in(town, "", d.substring(7));
      Check.told(x, d.charAt(0) - '0', x.judged(0));
      if (d.charAt(2) == '-') Check.no(x, 8, x.judged(1)); else Check.told(x, d.charAt(2) - '0', x.judged(1));
      if (d.charAt(4) == '-') Check.no(x, 8, x.judged(2)); else Check.told(x, d.charAt(4) - '0', x.judged(2));
    }
  }

  private static void leastKindFirstJob() {
    Check.part("JUDGED: the first JOB in the text that can't be: of it the least");
    // 1 and 2, 1 and 4; 2 and 3, 2 and 4; 3 and 4
    judged(1, 0, "at 10 n by p;");
    judged(1, 0, "at 23 n by s;");
    judged(2, 1, "at 9 m by p; at 10 m by p;");
    judged(2, 0, "at 22 n by p s;");
    judged(3, 1, "at 21 m by s; at 23 m by s;");
    // the first in the text, not the least kind, nor the first by time
    judged(4, 0, "at 23 m by s; at 6 m by r s;");
    judged(5, 1, "at 21 m by s; wear b; at 0 n by s;");
    judged(5, 0, "send a; at 0 n by s;");
    // kind 6 behind all others
    judged(5, 1, "wear a; send a;");
    judged(1, 1, "hold b; at 3 n by s;");
  }

  private static void leftCount() {
    Check.part("DONE: JOBS that can't be are left, one for which a THING is not there is left when it comes");
    String town = "thing a wear; thing b; making m gives a hours 2 hands 1; making n gives b hours 2 hands 1 of a;" + P + "person q from 0 to 3;";
    String[][] due = {
      // PLAN: JOBS that are left, what was there at 24
      {"", "0", "0"}, {"at 0 m by p;", "0", "1"}, {"at 0 m by p q;", "1", "0"}, {"at 2 m by q;", "1", "0"}, {"at 1 m by q;", "0", "1"}, {"at 23 m by p;", "1", "0"},
      {"at 0 m by p; at 1 m by p;", "1", "1"}, {"at 0 n by p;", "1", "0"}, {"at 0 n by p; at 0 m by q;", "1", "1"}, {"at 0 m by p; at 1 n by q; at 2 n by p;", "1", "2"},
      // p is kept from the third by the second, which is left
      {"at 0 m by q; at 2 m by p q; at 3 n by p;", "2", "1"}, {"at 0 m by q; at 2 m by p q; at 4 n by p;", "1", "2"},
      {"wear a;", "1", "0"}, {"at 0 m by p; wear a;", "0", "1"}, {"at 0 m by p; wear b;", "1", "1"}, {"at 0 m by p; hold b;", "1", "1"}, {"at 0 m by p; at 2 n by p; wear a; hold b;", "1", "2"},
    };
    for (String[] d : due) {
      Check.part("DONE, JOBS that are left: " + d[0]);
      OverNight x = Check.in(town, "", d[0]);
      Check.told(x, 0, x.lives(1));
      Check.told(x, Integer.parseInt(d[1]), x.lived(0));
      Check.told(x, 0, x.lives(99));
      Check.told(x, 99 * Integer.parseInt(d[1]), x.lived(0));
      Check.told(x, 0, x.done(0, 0));
      Check.told(x, Integer.parseInt(d[2]), x.there(24));
    }
  }

  private static void thereBehindAll() {
    Check.part("what was there at each time (behind all that is told of it); what STAYS behind the NIGHT");
    OverNight x = Check.in("thing a wear; thing b; making m gives a hours 2 hands 1; making n gives b hours 22 hands 1 of a; want a at 24 worth 3 eaten; want b at 24 worth 4;" + P,
        "a stays worn; b stays held;", "at 0 m by p; at 2 n by p; wear a; hold b;");
    Check.told(x, 4, x.done(0, 0));
    int[] due = new int[26];
    due[24] = 2;
    due[25] = 2;
    for (int t = 0; t <= 25; t++) Check.told(x, due[t], x.there(t));
    Check.told(x, 4, x.done(3, 0));
    for (int t = 0; t <= 25; t++) Check.told(x, t < 2 ? 3 : 2, x.there(t));
    // worn, held as told, if it can be: a that is eaten at 24 can't be worn
    Check.plan(x, "wear a;");
    Check.told(x, 3, x.done(1, 0));
    Check.told(x, 1, x.there(23));
    Check.told(x, 0, x.there(24));
    Check.told(x, 0, x.there(25));
  }

  private static void daysFromNothingOn() {
    Check.part("n DAYS (1 to 99) so, one behind the other, from nothing on, DAY 0");
    OverNight x = Check.in("thing a; making m gives a hours 1 hands 1; want a at 0 worth 1;" + P, "a stays day = 0;", "at 5 m by p;");
    // behind DAYS 0, 7, 14 .. it stays
    for (int n : new int[] {1, 2, 3, 8, 9, 15, 16, 98, 99}) {
      Check.told(x, (n + 5) / 7, x.lives(n));
      Check.told(x, (n - 1) % 7 == 0 ? 1 : 0, x.lived(1));
      Check.told(x, (n + 5) / 7, x.lived(2));
      Check.told(x, n - (n + 5) / 7, x.lived(3));
      Check.told(x, (n + 5) / 7, x.ill(0, n));
    }
  }

  private static void drawsBySixteen() {
    Check.part("ILL: a draw by 16 less than ILL; s, at first the seed");
    for (int ill = 0; ill <= 16; ill++) {
      OverNight x = Check.in("thing a; making m gives a hours 1 hands 1; want a at 1 worth 1; person o from 0 to 0 ill 7; person p from 0 to 0 ill " + ill + ";", "", "at 0 m by p;");
      for (int seed : new int[] {0, 1, 4999, 9998, 9999}) {
        int well = 0;
        long s = seed;
        for (int day = 0; day < 5; day++) {
          s = (s * 2333 + 10007) % 65536;
          s = (s * 2333 + 10007) % 65536;
          if (s % 65536 / 8 % 16 >= ill) well++;
        }
        Check.told(x, well, x.ill(seed, 5));
        Check.told(x, 5 - well, x.lived(0));
        Check.told(x, well, x.lived(2));
        Check.told(x, 5 - well, x.lived(3));
      }
    }
    // each of several PEOPLE at one JOB; wear, hold, send are with nobody
    OverNight y = Check.in("thing a wear; making m gives a hours 1 hands 2; want a at 1 worth 1; person p from 0 to 0 ill 16; person q from 0 to 0;", "a stays worn;", "at 3 m by p q; wear a;");
    Check.told(y, 8, y.lives(9));
    Check.told(y, 0, y.ill(1, 9));
    Check.told(y, 18, y.lived(0));
    // a draw for each PERSON, ill or not: p's are those of the second
    OverNight z = Check.in("thing a; making m gives a hours 1 hands 1; want a at 1 worth 1; person o from 0 to 0; person p from 0 to 0 ill 8;", "", "at 0 m by p;");
    long s = 5;
    int well = 0;
    for (int day = 0; day < 20; day++) {
      s = (s * 2333 + 10007) % 65536;
      s = (s * 2333 + 10007) % 65536;
      if (s / 8 % 16 >= 8) well++;
    }
    Check.told(z, well, z.ill(5, 20));
  }

  private static void allWantsAndNothing() {
    Check.part("lived: in how many DAYS all WANTS were had, in how many nothing was had");
    String town = "thing a; thing b; making m gives a hours 1 hands 1; making n gives b hours 1 hands 1; want a at 5 worth 1; want b at 5 worth 2; want a at 24 worth 4;" + P;
    int[][] due = {{3, 0}, {0, 0}, {0, 0}, {0, 3}, {0, 0}};
    String[] plans = {"at 0 m by p; at 1 n by p;", "at 0 m by p;", "at 0 n by p;", "at 8 n by p;", "at 8 m by p; at 1 n by p;"};
    int[] worth = {7, 5, 2, 0, 6};
    for (int i = 0; i < 5; i++) {
      OverNight x = Check.in(town, "", plans[i]);
      Check.told(x, 3 * worth[i], x.lives(3));
      Check.told(x, due[i][0], x.lived(2));
      Check.told(x, due[i][1], x.lived(3));
    }
  }

  private static void tellsOfAnotherTown() {
    Check.part("step, stepTime, firstNight, there, lived: whatever TOWN is there since");
    OverNight x = Full.untaped();
    int[] was = {x.step(0), x.stepTime(0), x.firstNight(0), x.firstNight(3), x.there(0), x.there(25), x.lived(0), x.lived(1)};
    for (int round = 0; round < 3; round++) {
      int[] is = {x.step(0), x.stepTime(0), x.firstNight(0), x.firstNight(3), x.there(0), x.there(25), x.lived(0), x.lived(1)};
      for (int i = 0; i < was.length; i++) Check.due(was[i], is[i]);
      if (round == 0) Check.town(x, "thing v; want v at 3 worth 1; " + P);
      if (round == 1) x.back();
    }
  }

  private static void backToTheLatest() {
    Check.part("all is taken back to the latest MARK, which is gone then");
    OverNight x = new OverNight();
    for (int k = 1; k <= 3; k++) {
      Check.town(x, "thing a wear;" + (k > 1 ? "thing b;" : "") + (k > 2 ? "thing c;" : ""));
      Check.law(x, k == 2 ? "" : "a stays worn;");
      if (k != 1) Check.plan(x, "wear a;");
      Check.told(x, k, x.mark());
    }
    Check.no(x, 7, x.mark());
    Check.town(x, "");
    for (int k = 2; k >= 0; k--) {
      Check.told(x, k, x.back());
      Check.told(x, k + 1, x.many(0));
      Check.told(x, k == 1 ? 0 : 1, x.thing(0, 2));
      Check.told(x, k == 0 ? 0 : 1, x.many(4));
      if (k == 0) Check.no(x, 8, x.lives(1)); else Check.told(x, 0, x.lives(1));
    }
    Check.no(x, 8, x.back());
    Check.told(x, 1, x.many(0));
    // what is there when the MARK is made stays there; what is changed behind it is taken back, piece by piece
    x = Full.untaped();
    Check.told(x, 3, x.mark());
    Check.law(x, "");
    Check.told(x, 0, x.thing(0, 2));
    Check.told(x, 5, x.many(4));
    Check.told(x, 2, x.back());
    Check.told(x, 1, x.thing(0, 2));
    Check.told(x, 3, x.mark());
    Check.plan(x, "wear a;");
    Check.told(x, 1, x.many(4));
    Check.told(x, 2, x.back());
    Check.told(x, 5, x.many(4));
  }

  /** THINGS ta to th, each made in an hour, some more MAKINGS, PEOPLE that are always awake: as many as there may be. */
  private static String eight() {
    StringBuilder s = new StringBuilder();
    for (char c = 'a'; c <= 'h'; c++) s.append("thing t").append(c).append(" wear send;");
    for (char c = 'a'; c <= 'h'; c++) s.append("making m").append(c).append(" gives t").append(c).append(" hours 1 hands 1;");
    s.append("making n gives th hours 1 hands 1 of tg with ta; making o gives th hours 24 hands 3; making q gives ta hours 1 hands 1 of ta tb tc td te tf tg th;");
    s.append("making r gives th hours 23 hands 1;");
    for (char c = 'a'; c <= 'f'; c++) s.append("person p").append(c).append(" from 0 to 0;");
    return s.toString();
  }

  private static void eightOfAll() {
    Check.part("THINGS, at most 8: the eighth as any other");
    StringBuilder wants = new StringBuilder();
    for (int k = 0; k < 8; k++) wants.append("want t").append((char) ('a' + k)).append(" at 0 worth ").append(1 << k).append(';');
    OverNight x = Check.in(eight());
    Check.law(x, "th stays held or here ta; ta stays here th and worn;");
    Check.told(x, 128, x.night(128, -1, 7, -1, 0));
    Check.told(x, 0, x.night(128, 7, -1, 7, 0));
    Check.told(x, 129, x.night(129, 0, -1, -1, 0));
    Check.told(x, 128, x.night(255, 7, 7, 7, 0));
    Check.told(x, 1, x.soonest(7, 0));
    Check.told(x, 0, x.soonest(7, 128));
    Check.told(x, 7, x.bars(7, 0, 0));
    Check.told(x, 8, x.labour(255, 0));
    Check.told(x, 1, x.labour(128, 127));
    Check.told(x, 1, x.hands(255));
    Check.town(x, eight().substring(0, eight().indexOf("making n")) + wants);
    Check.told(x, 255, x.day(255, 0));
    Check.told(x, 127, x.day(127, 0));
    Check.told(x, 0, x.day(255, 1));
    for (int k = 0; k < 8; k++) {
      Check.told(x, 1 << k, x.kept(k, 2));
      Check.told(x, 1 << k, x.more(k, 2));
      Check.told(x, 1 << k, x.price(k, 0, 255));
    }
    Check.told(x, 7, x.bestKept(2));
    Check.told(x, 7, x.bestMore(2));
    Check.told(x, 0, x.bestMore(1));
    Check.town(x, eight().substring(0, eight().indexOf("making ma")) + "making ma gives ta hours 2 hands 1; want ta at 5 worth 3;");
    Check.told(x, 3, x.day(0, 3));
    Check.told(x, 0, x.day(0, 4));
    // all eight at 24, one at each time ahead of it
    Check.town(x, eight().substring(0, eight().indexOf("making ma")) + wants.toString().replace("at 0", "at 24"));
    Check.told(x, 255, x.day(255, 0));
    Check.told(x, 255, x.day(255, 24));
    Check.told(x, 129, x.day(129, 23));
    Check.told(x, 510, x.days(0, 2, 0) + x.days(255, 2, 0) + x.day(255, 3));
    Check.told(x, 128, x.price(7, 24, 127));
    Check.told(x, 0, x.day(0, 24));
    // fewer THINGS behind it: what was reckoned for eight is none of theirs
    Check.town(x, "thing a; thing b; making m gives a hours 1 hands 1; want a at 0 worth 1;");
    Check.told(x, 0, x.bestMore(2));
    Check.told(x, 0, x.bestKept(2));
    Check.told(x, 0, x.more(1, 2));
    Check.told(x, 1, x.more(0, 2));
  }

  private static void asManyJobs() {
    Check.part("24 JOBS, 6 PEOPLE: the last as any other");
    StringBuilder people = new StringBuilder();
    for (char c = 'a'; c <= 'f'; c++) people.append("person ").append(c).append(" from 0 to 0").append(c == 'f' ? " ill 16;" : ";");
    StringBuilder plan = new StringBuilder();
    for (int h = 0; h < 23; h++) plan.append("at ").append(h).append("m by a;");
    OverNight x = Check.in("thing t; making m gives t hours 1 hands 1; want t at 23 worth 1 eaten; want t at 24 worth 2;" + people, "", plan + "at 23m by f;");
    Check.told(x, 24, x.many(4));
    Check.told(x, 0, x.judged(0));
    Check.told(x, 3, x.done(0, 0));
    Check.told(x, 297, x.lives(99));
    Check.told(x, 0, x.lived(0));
    Check.told(x, 99, x.ill(0, 99));
    Check.told(x, 99, x.lived(0));
    Check.plan(x, plan + "at 22m by a;");
    Check.told(x, 3, x.judged(0));
    Check.told(x, 23, x.judged(1));
    Check.plan(x, plan + "hold t;");
    Check.told(x, 6, x.judged(0));
    Check.told(x, 23, x.judged(1));
    Check.told(x, 0, x.judged(2));
    Check.told(x, 1, x.lives(1));
    Check.told(x, 1, x.lived(0));
  }

  private static void nothingWornHeldSent() {
    Check.part("DONE: worn, held, sent as told, if it can be; none else");
    String town = "thing a wear send; thing b; person p from #;";
    for (String people : new String[] {"0 to 0", "0 to 23"}) {
      for (String how : new String[] {"worn", "held", "sent"}) {
        String job = how.equals("worn") ? "wear " : how.equals("held") ? "hold " : "send ";
        OverNight x = Check.in(town.replace("#", people), "a stays " + how + "; b stays not " + how + ";", "");
        Check.told(x, 0, x.done(3, 0));
        Check.told(x, 2, x.there(25));
        for (String other : new String[] {"wear ", "hold ", "send "}) {
          Check.plan(x, other + "a;");
          Check.told(x, 0, x.done(3, 0));
          boolean may = !job.equals("hold ") || people.equals("0 to 0");
          Check.told(x, other.equals(job) && may ? 3 : 2, x.there(25));
          Check.told(x, 0, x.done(2, 0));
          Check.told(x, 2, x.there(25));
        }
        Check.plan(x, job + "b;");
        Check.told(x, 0, x.done(3, 0));
        // b may be held, but not worn, not sent
        Check.told(x, how.equals("held") && people.equals("0 to 0") ? 0 : 2, x.there(25));
      }
    }
  }

  private static void mayNotBeChosen() {
    Check.part("NIGHT: one that may be WORN is worn, one is HELD if the town is AWAKE, one that may be SENT is sent");
    String[] may = {"wear", "", "send"};
    String[] how = {"worn", "held", "sent"};
    for (int i = 0; i < 3; i++) {
      for (String people : new String[] {"0 to 0", "0 to 23"}) {
        for (String which : new String[] {"", "wear", "send", "wear send"}) {
          OverNight x = Check.in("thing a " + which + "; want a at 3 worth 5; person p from " + people + ";", "a stays " + how[i] + ";");
          boolean can = i == 1 ? people.equals("0 to 0") : which.contains(may[i]);
          Check.told(x, can ? 10 : 5, x.days(1, 2, 0));
          for (int w = 0; w < 3; w++) Check.told(x, can && w == i ? 0 : -1, x.firstNight(w));
          Check.told(x, can ? 1 : 0, x.firstNight(3));
        }
      }
    }
  }

  /** 20 CASES: all of seven THINGS may be worn and held, six may be sent: 8 times 8 times 7 NIGHTS. */
  private static void nightsWithManyChoices() {
    Check.part("First NIGHT: as many as there can be to choose from");
    StringBuilder town = new StringBuilder();
    StringBuilder law = new StringBuilder();
    for (char c = 'a'; c <= 'g'; c++) {
      town.append("thing ").append(c).append(" wear send;");
      law.append(c).append(c == 'g' ? " stays worn and held;" : " stays worn and held and sent;");
    }
    town.append(P);
    for (int k = 0; k < 7; k++) {
      OverNight x = Check.in(town + "want " + (char) ('a' + k) + " at 0 worth 5;", law.toString());
      Check.told(x, 10, x.days(127, 2, 0));
      Check.told(x, k, x.firstNight(0));
      Check.told(x, k, x.firstNight(1));
      Check.told(x, k == 6 ? -1 : k, x.firstNight(2));
      Check.told(x, 1 << k, x.firstNight(3));
    }
    OverNight x = Check.in(town + "want f at 0 worth 5; want g at 0 worth 6;", law.toString().replace("f stays worn and held and", "f stays"));
    Check.told(x, 22, x.days(127, 2, 0));
    Check.told(x, 6, x.firstNight(0));
    Check.told(x, 6, x.firstNight(1));
    Check.told(x, 5, x.firstNight(2));
    Check.told(x, 96, x.firstNight(3));
  }

  private static void markChangesNothing() {
    Check.part("MARKS: TOWN, LAW and PLAN are there as they were, behind a MARK made, too");
    Edge full = new Edge(Full::make);
    full.changesNothing(x -> x.mark(), x -> x.back());
    // whatever stood in its place: a MARK made and taken back with another TOWN in it
    full.changesNothing(x -> {
      x.mark();
      x.town(0);
      x.back();
      Check.feed(x, "thing x; thing y;   ");
      return x.mark();
    }, x -> x.back());
    Edge bare = new Edge(Full::bare);
    bare.changesNothing(x -> x.mark(), x -> x.back());
    // all that is told of it, behind the MARK and by itself
    OverNight x = Full.untaped();
    Check.told(x, 3, x.mark());
    Check.due(true, Full.told(x).equals(Full.told(Full.untaped())));
  }

  private static void nothingOfThatAhead() {
    Check.part("A TOWN, a LAW, a PLAN that is taken is there in place of that ahead: nothing of it is left");
    String[] poor = {"", "thing a;", "thing a; thing b; making m gives b hours 1 hands 1;", "thing a; thing b; making m gives a hours 1 hands 1 of b; want a at 1 worth 1;",
        "thing a; person p from 5 to 6; want a at 3 worth 4;", "person p from 5 to 6;",
        "thing a; thing b; thing c; making m gives a hours 2 hands 1; making n gives b hours 3 hands 1; making o gives c hours 5 hands 1;"
        + "person p from 0 to 13; person q from 18 to 6; want a at 2 worth 1; want b at 13 worth 20; want c at 24 worth 300;"};
    for (String town : poor) {
      for (int richer = 1; richer <= 3; richer++) {
        OverNight x = new OverNight();
        for (int i = 0; i < richer; i++) {
          Check.town(x, Full.TOWN);
          Check.law(x, Full.LAW);
          Check.plan(x, Full.PLAN);
          if (i == 1) Check.town(x, Full.TOWN + "want");
        }
        Check.town(x, town);
        OverNight y = Check.in(town);
        Check.due(true, Full.told(x).equals(Full.told(y)));
      }
    }
    // a LAW and a PLAN behind richer ones, and behind many of them
    OverNight x = Check.in(Full.TOWN);
    String twenty = "not (worn or held) and (here a or day < 3 and not sent) or ";
    String longLaw = "a stays " + twenty + twenty + twenty + "not not not worn; b stays not sent;";
    for (int i = 0; i < 22; i++) Check.well(x, 2, Check.law(x, longLaw));
    Check.told(x, 3, x.night(3, -1, -1, -1, 0));
    Check.told(x, 1, x.night(3, -1, -1, 1, 0));
    Check.well(x, 1, Check.law(x, "c stays day > 2;"));
    Check.told(x, 4, x.night(7, -1, -1, -1, 3));
    Check.told(x, 0, x.night(7, -1, -1, -1, 2));
    // nor of how ill one was
    String sick = "thing a; making m gives a hours 1 hands 1; want a at 1 worth 1; person p from 0 to 0 ill 16;";
    for (int richer = 1; richer <= 3; richer++) {
      OverNight y = new OverNight();
      for (int i = 0; i < richer; i++) Check.town(y, sick);
      Check.town(y, sick.replace(" ill 16", ""));
      Check.plan(y, "at 0 m by p;");
      Check.told(y, 9, y.ill(0, 9));
      Check.told(y, 0, y.lived(0));
    }
    String ill = "thing a wear; making m gives a hours 1 hands 1; want a at 0 worth 1; person p from 0 to 0 ill 16;";
    x = Check.in(ill, "a stays worn or day = 0;");
    for (int i = 0; i < 3; i++) Check.plan(x, "at 0 m by p; at 1 m by p; at 2 m by p;");
    Check.plan(x, "wear a;");
    Check.told(x, 0, x.ill(0, 9));
    Check.told(x, 9, x.lived(0));
    Check.plan(x, "wear a;");
    Check.told(x, 1, x.done(1, 1));
    Check.told(x, 1, x.there(25));
    x = Check.in(ill.replace(" ill 16;", " ill 16; person q from 0 to 0;"), "a stays worn;");
    for (int i = 0; i < 3; i++) Check.plan(x, "at 0 m by p; at 1 m by p; at 2 m by p;");
    for (int i = 0; i < 2; i++) {
      Check.plan(x, "wear a; at 0 m by q;");
      Check.told(x, 8, x.ill(0, 9));
      Check.told(x, 0, x.lived(0));
      Check.told(x, 1, x.lived(1));
    }
  }
}
