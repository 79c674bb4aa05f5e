/** Promises 38 to 45: PLANS judged and done, MARKS. */
public final class DeedsTest {
  private static final String TOWN = "thing a wear; thing b send; thing c; making m gives a hours 2 hands 1; making n gives b hours 3 hands 2 of a;"
      + " making o gives c hours 5 hands 1 with a; person p from 0 to 13; person q from 10 to 2 ill 16; person r from 0 to 0 ill 1;"
      + " want a at 2 worth 1; want b at 13 worth 20 eaten; want c at 24 worth 300;";

  public static void main(String[] args) {
    judgedBeforehand();
    judgedAsItGoes();
    promise39();
    promise40();
    promise41();
    promise42();
    promise43();
    promises44And45();
    Check.end("DeedsTest");
  }

  private static void judged(OverNight x, String plan, int kind, int job, int thing) {
    Check.part("38 judged: " + plan);
    Check.plan(x, plan);
    Check.told(x, kind, x.judged(0));
    if (kind == 0) Check.no(x, 8, x.judged(1)); else Check.told(x, job, x.judged(1));
    if (kind != 6) Check.no(x, 8, x.judged(2)); else Check.told(x, thing, x.judged(2));
    Check.no(x, 5, x.judged(3));
    Check.no(x, 5, x.judged(-1));
  }

  private static void judgedBeforehand() {
    OverNight x = Check.in(TOWN);
    Check.part("38 judged without a PLAN");
    Check.told(x, 0, x.judged(0));
    Check.no(x, 8, x.judged(1));
    Check.no(x, 8, x.judged(2));
    judged(x, "", 0, 0, 0);
    judged(x, "at 0 m by p;", 0, 0, 0);
    // as many PEOPLE as hands: neither more nor fewer
    judged(x, "at 0 m by p r;", 1, 0, 0);
    judged(x, "at 0 n by r;", 1, 0, 0);
    judged(x, "at 23 m by p q;", 1, 0, 0);
    judged(x, "at 10 m by p;", 0, 0, 0);
    judged(x, "at 11 m by p;", 0, 0, 0);
    judged(x, "at 12 m by p;", 2, 0, 0);
    judged(x, "at 9 m by q;", 2, 0, 0);
    judged(x, "at 1 m by q;", 2, 0, 0);
    judged(x, "at 0 m by q;", 0, 0, 0);
    // both must be
    judged(x, "at 2 m by r; at 4 n by r q;", 2, 1, 0);
    judged(x, "at 2 m by r; at 9 n by q r;", 2, 1, 0);
    judged(x, "at 22 o by p;", 2, 0, 0);
    // AWAKE in all its HOURS of the DAY, but it would end behind 24
    judged(x, "at 22 o by q;", 4, 0, 0);
    judged(x, "at 23 m by r;", 4, 0, 0);
    judged(x, "at 22 m by r;", 0, 0, 0);
    judged(x, "at 0 m by r; at 1 m by r;", 3, 1, 0);
    judged(x, "at 1 m by r; at 0 m by r;", 3, 1, 0);
    judged(x, "at 0 m by r; at 2 m by r;", 0, 0, 0);
    judged(x, "at 0 m by r; at 0 m by p; at 1 m by q;", 2, 2, 0);
    judged(x, "at 0 m by r; at 10 n by p q; at 12 n by q r;", 3, 2, 0);
    judged(x, "at 22 o by r; at 23 m by r;", 4, 0, 0);
    judged(x, "at 0 m by r; at 1 m by p r;", 1, 1, 0);
    judged(x, "wear c;", 5, 0, 0);
    judged(x, "send a;", 5, 0, 0);
    // the first in the text, whatever its kind and time; those for which a THING is not there behind all others
    judged(x, "at 0 n by p r; send a; at 0 m by p r;", 5, 1, 0);
    judged(x, "at 20 m by p; at 0 m by p r;", 2, 0, 0);
    OverNight y = Check.in(TOWN.replace("person r from 0 to 0", "person r from 1 to 24").replace("from 10 to 2", "from 10 to 23"));
    judged(y, "hold a;", 5, 0, 0);
    OverNight z = Check.in(TOWN.replace("person r from 0 to 0", "person r from 23 to 1").replace("from 10 to 2", "from 10 to 23"));
    judged(z, "at 0 m by p; hold a;", 0, 0, 0);
    // over the stroke is another DAY: an HOUR behind 24 is none of the JOB's
    OverNight w = Check.in("thing a; making m gives a hours 2 hands 1; person p from 18 to 24; person q from 23 to 2;");
    judged(w, "at 23 m by p;", 4, 0, 0);
    judged(w, "at 23 m by q; at 0 m by q;", 4, 0, 0);
    judged(w, "at 0 m by q; at 23 m by q;", 4, 1, 0);
  }

  private static void judgedAsItGoes() {
    OverNight x = Check.in(TOWN);
    judged(x, "at 0 n by p r;", 2 + 4, 0, 0);
    // by time, not by text; at one time by text
    judged(x, "at 12 o by r; at 10 n by p q;", 6, 1, 0);
    judged(x, "at 5 o by r; at 5 o by p;", 6, 0, 0);
    judged(x, "at 0 m by r; at 2 o by r; at 1 o by p;", 6, 2, 0);
    // given at 2, ahead of what begins then
    judged(x, "at 2 o by r; at 0 m by r;", 0, 0, 0);
    // used up by the one ahead in the text
    judged(x, "at 8 m by p; at 10 n by p q; at 10 o by r;", 6, 2, 0);
    judged(x, "at 8 m by p; at 10 o by r; at 10 n by p q;", 0, 0, 0);
    // the NIGHT behind all others
    judged(x, "wear a; at 5 o by r;", 6, 1, 0);
    judged(x, "send b; wear a; at 0 o by p; at 1 m by r;", 6, 2, 0);
    judged(x, "send b; wear a;", 6, 0, 1);
    judged(x, "wear a; send b;", 6, 0, 0);
    judged(x, "hold c; at 22 m by r;", 6, 0, 2);
    judged(x, "hold a; wear a; at 22 m by r;", 0, 0, 0);
    // eaten ahead of the NIGHT
    judged(x, "at 8 m by p; at 10 n by p q; send b;", 6, 2, 1);
    judged(x, "at 9 m by r; at 11 n by q r; send b;", 0, 0, 0);
    // the first THING of several
    OverNight y = Check.in("thing a; thing b; thing c; making m gives a hours 1 hands 1 of c with b; making n gives b hours 1 hands 1; person p from 0 to 0;");
    judged(y, "at 0 m by p;", 6, 0, 1);
    judged(y, "at 0 n by p; at 1 m by p;", 6, 1, 2);
  }

  private static void promise39() {
    Check.part("39 done");
    OverNight x = Check.in(TOWN, "a stays worn; b stays sent and day = 3; c stays held;");
    Check.no(x, 8, x.done(0, 0));
    Check.no(x, 2, x.done(8, 1000));
    Check.no(x, 2, x.done(-1, 0));
    Check.no(x, 5, x.done(0, 1000));
    Check.no(x, 5, x.done(0, -1));
    Check.plan(x, "at 0 m by r; at 2 o by r; at 10 n by p q; wear a; hold c; send b;");
    // a at 2 (1), c at 7, b by 10-13 of a (20), c at 24 (300); a is used up, b eaten
    Check.told(x, 321, x.done(0, 0));
    Check.told(x, 4, x.there(25));
    Check.told(x, 321, x.done(7, 3));
    Check.told(x, 4, x.there(25));
    // without a JOB that can't be, and one that is left as it comes
    Check.plan(x, "at 13 m by p; at 2 o by r; at 0 m by r; at 6 m by r; at 10 n by p r; send b;");
    Check.told(x, 321, x.done(0, 0));
    Check.told(x, 0, x.there(25));
    // p is at the first in HOUR 12, though it is left
    Check.plan(x, "at 12 m by p; at 2 o by r; at 0 m by r; at 6 m by r; at 10 n by p r; send b;");
    Check.told(x, 301, x.done(0, 0));
    Check.plan(x, "at 2 o by r; at 5 m by r; at 9 m by r; at 12 n by q r; send b; wear a;");
    // o is left at 2 as there is no a; m at 5 is left as r is at o then, left or not
    Check.told(x, 0, x.done(0, 3));
    Check.told(x, 1, x.there(11));
    Check.told(x, 0, x.there(12));
    Check.told(x, 2, x.there(24));
    Check.told(x, 2, x.there(25));
    Check.told(x, 301, x.done(1, 3));
    Check.told(x, 0, x.done(0, 4));
    Check.told(x, 0, x.there(25));
    Check.told(x, 0, x.done(0, 10 * 7 + 2));
    Check.told(x, 0, x.there(25));
    Check.told(x, 0, x.done(0, 997));
    Check.told(x, 2, x.there(25));
    // wear what is not there any more, hold it all the same
    Check.plan(x, "wear a; hold a; send b;");
    Check.told(x, 1, x.done(1, 0));
    Check.told(x, 1, x.there(25));
    Check.told(x, 20, x.done(2, 3));
    Check.told(x, 0, x.there(25));
    // two that end at one time; what was given at 24 is of that DAY alone
    OverNight y = Check.in("thing a; thing b; thing c; making m gives a hours 2 hands 1 of c; making n gives b hours 3 hands 1 of c; person p from 0 to 0; person q from 0 to 0; want a at 24 worth 5; want b at 24 worth 7;",
        "", "at 3 m by p; at 2 n by q; at 22 m by p; at 21 n by q;");
    Check.told(y, 7, y.done(4, 0));
    Check.told(y, 2, y.there(5));
    Check.told(y, 0, y.done(0, 0));
    Check.plan(y, "at 21 n by q; at 22 m by p;");
    Check.told(y, 7, y.done(4, 0));
    Check.told(y, 2, y.there(24));
    Check.told(y, 0, y.done(0, 0));
    Check.town(y, "thing a; thing b; making m gives a hours 2 hands 1; making n gives b hours 3 hands 1; person p from 0 to 0; person q from 0 to 0; want a at 24 worth 5; want b at 24 worth 7;");
    Check.plan(y, "at 21 n by q; at 22 m by p;");
    Check.told(y, 12, y.done(0, 0));
    Check.told(y, 0, y.there(23));
    Check.told(y, 3, y.there(24));
    Check.plan(y, "at 0 n by q; at 1 m by p;");
    Check.told(y, 12, y.done(0, 0));
    Check.told(y, 0, y.there(2));
    Check.told(y, 3, y.there(3));
    // an empty PLAN is one
    x.plan(0);
    Check.told(x, 321, x.done(7, 0));
    Check.told(x, 0, x.there(25));
  }

  private static void promise40() {
    Check.part("40 there");
    OverNight x = Check.in(TOWN, "a stays worn; c stays held;");
    Check.no(x, 8, x.there(0));
    Check.no(x, 5, x.there(-1));
    Check.no(x, 5, x.there(26));
    Check.plan(x, "at 0 m by r; at 2 o by r; at 10 n by p q; at 22 m by r; wear a; hold c;");
    x.done(2, 0);
    // b from the start is eaten at 13 behind n's b has come; a used up at 10, made again by 24
    for (int t = 0; t <= 24; t++) {
      int due = 0;
      if (t < 13) due |= 2;
      if (t >= 2 && t < 10 || t == 24) due |= 1;
      if (t >= 7) due |= 4;
      Check.told(x, due, x.there(t));
    }
    Check.told(x, 5, x.there(25));
    // others, those that fail, another TOWN leave it
    x.lives(3);
    x.ill(1, 3);
    x.judged(0);
    Check.no(x, 5, x.done(0, 1000));
    Check.town(x, "");
    Check.no(x, 8, x.done(0, 0));
    Check.told(x, 5, x.there(25));
    Check.told(x, 2, x.there(0));
    // what begins at a time has taken what it is made of
    x = Check.in("thing a; thing b; making m gives b hours 1 hands 1 of a; person p from 0 to 0; want a at 5 worth 7 eaten; want b at 6 worth 1;", "", "at 4 m by p; at 5 m by p;");
    Check.told(x, 1, x.done(1, 0));
    Check.told(x, 1, x.there(3));
    Check.told(x, 0, x.there(4));
    Check.told(x, 2, x.there(5));
    Check.plan(x, "at 5 m by p;");
    Check.told(x, 7, x.done(1, 0));
    Check.told(x, 0, x.there(5));
  }

  private static void lived(OverNight x, int left, int set, int all, int none) {
    Check.told(x, left, x.lived(0));
    Check.told(x, set, x.lived(1));
    Check.told(x, all, x.lived(2));
    Check.told(x, none, x.lived(3));
  }

  private static void promise41() {
    Check.part("41 lives");
    OverNight x = Check.in(TOWN, "a stays worn; c stays held and day < 3;");
    Check.no(x, 8, x.lives(1));
    Check.no(x, 5, x.lives(0));
    Check.no(x, 5, x.lives(100));
    Check.plan(x, "at 0 m by r; at 3 o by r; wear a; hold c;");
    Check.told(x, 301, x.lives(1));
    lived(x, 0, 5, 0, 0);
    Check.told(x, 301 * 99, x.lives(99));
    lived(x, 0, 99 % 7 >= 1 && 98 % 7 < 3 ? 5 : 1, 0, 0);
    // DAY 0 begins with nothing; what stays is there on the next DAY
    Check.plan(x, "at 5 m by r; wear a;");
    Check.told(x, 3, x.lives(4));
    lived(x, 0, 1, 0, 1);
  }

  private static void promise42() {
    Check.part("42 ill");
    OverNight x = Check.in(TOWN, "a stays worn;");
    Check.no(x, 8, x.ill(0, 1));
    Check.no(x, 5, x.ill(-1, 1));
    Check.no(x, 5, x.ill(10000, 1));
    Check.no(x, 5, x.ill(0, 0));
    Check.no(x, 5, x.ill(0, 100));
    // p (never ill) by himself, q (always ill): what lives() has without q
    Check.plan(x, "at 0 m by p; at 10 n by p q; wear a;");
    Check.told(x, 3 * 21, x.lives(3));
    lived(x, 3, 0, 0, 0);
    Check.told(x, 3, x.ill(9999, 3));
    lived(x, 3, 1, 0, 0);
    // r: three draws a DAY; ill if the third is 0
    Check.plan(x, "at 0 m by r;");
    for (int seed = 0; seed < 200; seed += 7) {
      long s = seed;
      int well = 0;
      for (int day = 0; day < 30; day++) {
        for (int p = 0; p < 3; p++) s = (s * 2333 + 10007) & 0xffff;
        if ((s >> 3 & 15) >= 1) well++;
      }
      Check.told(x, well, x.ill(seed, 30));
      lived(x, 30 - well, 0, 0, 30 - well);
    }
    // a town without people draws nothing; nobody falls ill by lives()
    Check.told(x, 30, x.lives(30));
    Check.town(x, "thing a; want a at 1 worth 1;");
    x.plan(0);
    Check.told(x, 0, x.ill(5, 99));
  }

  private static void promise43() {
    Check.part("43 lived");
    OverNight x = Check.in(TOWN, "a stays worn;");
    Check.no(x, 8, x.lived(0));
    Check.no(x, 5, x.lived(4));
    Check.no(x, 5, x.lived(-1));
    Check.plan(x, "at 0 m by r; at 2 o by r; at 10 n by p q;");
    Check.told(x, 321 * 5, x.lives(5));
    lived(x, 0, 0, 5, 0);
    // a JOB that can't be, one that is left as it comes, one in the NIGHT: each on each DAY
    Check.plan(x, "at 23 m by r; at 3 o by p; send b;");
    Check.told(x, 0, x.lives(4));
    lived(x, 12, 0, 0, 4);
    x.done(7, 0);
    Check.no(x, 5, x.lives(100));
    Check.no(x, 5, x.ill(0, 0));
    Check.town(x, "");
    lived(x, 12, 0, 0, 4);
    // without WANTS all of them were had, and nothing was
    x.plan(0);
    Check.told(x, 0, x.lives(2));
    lived(x, 0, 0, 2, 2);
  }

  private static void promises44And45() {
    Check.part("44, 45 mark, back");
    OverNight x = Check.in(TOWN, "a stays worn;", "wear a;");
    Check.no(x, 8, x.back());
    Check.told(x, 1, x.mark());
    x.law(0);
    x.plan(0);
    Check.told(x, 2, x.mark());
    Check.town(x, "thing z send; making y gives z hours 9 hands 3; person w from 3 to 9 ill 4; want z at 7 worth 77 eaten;");
    Check.law(x, "z stays sent or held;");
    Check.plan(x, "send z; hold z;");
    Check.told(x, 3, x.mark());
    Check.no(x, 7, x.mark());
    Check.town(x, "");
    Check.told(x, 0, x.many(0));
    x.tray(0, 0, 3);
    Check.feed(x, "thing z;");
    // TRAYS and the tape are none of it
    Check.told(x, 2, x.back());
    Check.told(x, 0, x.read(0, 2));
    Check.due(40, x.feed(0, 0, 0, 0, 0));
    Check.told(x, 1, x.many(0));
    Check.told(x, 9, x.making(0, 1));
    Check.told(x, 3, x.making(0, 2));
    Check.told(x, 1, x.thing(0, 1));
    Check.told(x, 1, x.awake(0, 8));
    Check.told(x, 77, x.want(0, 2));
    Check.told(x, 1, x.night(1, -1, -1, 0, 0));
    Check.told(x, 2, x.many(4));
    Check.told(x, 77, x.day(1, 0));
    Check.told(x, 1, x.back());
    Check.told(x, 3, x.many(0));
    Check.told(x, 0, x.thing(0, 2));
    Check.told(x, 0, x.many(4));
    Check.told(x, 0, x.lives(1));
    Check.told(x, 0, x.back());
    Check.told(x, 1, x.thing(0, 2));
    Check.told(x, 1, x.many(4));
    Check.no(x, 8, x.back());
    // a MARK keeps whether there is a PLAN at all, and what is changed behind it does not change it
    x = Check.in(TOWN);
    x.mark();
    x.plan(0);
    x.back();
    Check.no(x, 8, x.lives(1));
    x.mark();
    Check.law(x, "b stays held;");
    x.mark();
    Check.law(x, "c stays here c and here a;");
    x.mark();
    Check.town(x, "thing q;");
    Check.town(x, TOWN);
    Check.told(x, 2, x.back());
    Check.told(x, 4, x.night(5, -1, -1, -1, 0));
    Check.told(x, 1, x.back());
    Check.told(x, 2, x.night(7, -1, 1, -1, 0));
    Check.told(x, 0, x.back());
    Check.told(x, 0, x.night(7, -1, 1, -1, 0));
  }
}
