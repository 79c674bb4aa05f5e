/** Promises 9 to 18: the tape, the texts and their FAULTS, and what they tell. */
public final class TextTest {
  private static final String AB = "thing a; thing b; ";

  public static void main(String[] args) {
    promise9();
    promise10();
    townFaults();
    townNumbers();
    townTooMany();
    promise11();
    lawFaults();
    promise12();
    planFaults();
    promise13();
    promise14();
    promise15();
    promise16();
    promise17();
    promise18();
    Check.end("TextTest");
  }

  private static void promise9() {
    Check.part("9 feed");
    OverNight x = new OverNight();
    Check.due(20, x.feed(0x7468696e, 0x6720613b, 0x20202020, -1, 0x80000000));
    x.many(9);
    for (int i = 2; i <= 40; i++) Check.due(20 * i, x.feed(0x20202020, 0x20202020, 0x20202020, 0x20202020, 0x20202020));
    Check.due(-1, x.feed(1, 2, 3, 4, 5));
    Check.due(5, x.status());
    Check.due(1, x.town(8));
    Check.due(20, x.feed(0, 0, 0, 0, 0));
    Check.fault(x, 1, 0, x.town(1));
    // the highest byte first: "thing" then, and bytes above 127 begin no TOKEN
    x.feed(0x7468696e, 0x6720613b, 0x20202020, -1, 0x80000000);
    Check.fault(x, 1, 12, x.town(20));
  }

  private static void promise10() {
    Check.part("10 town");
    OverNight x = new OverNight();
    Check.well(x, 0, x.town(0));
    Check.no(x, 5, x.town(1));
    Check.no(x, 5, x.town(-1));
    Check.feed(x, "thing a; thing b wear send; thing c;");
    Check.no(x, 5, x.town(41));
    Check.well(x, 2, x.town(27));
    Check.due(20, x.feed(0, 0, 0, 0, 0));
    Check.no(x, 5, x.town(21));
    Check.no(x, 5, x.law(21));
    Check.due(40, x.feed(0, 0, 0, 0, 0));
    // with 10 the tape is empty and the old one stays
    Check.fault(x, 1, 0, x.town(40));
    Check.due(20, x.feed(0, 0, 0, 0, 0));
    Check.told(x, 2, x.many(0));
    x.town(0);
    Check.told(x, 0, x.many(0));
    // a town that is taken has no LAW, no PLAN
    x = Check.in(AB, "a stays held;", "wear a;");
    Check.told(x, 1, x.thing(0, 2));
    Check.told(x, 1, x.many(4));
    Check.fault(x, 2, 0, Check.town(x, ";"));
    Check.told(x, 1, x.many(4));
    Check.well(x, 2, Check.town(x, AB));
    Check.told(x, 0, x.thing(0, 2));
    Check.told(x, 0, x.many(4));
    Check.no(x, 8, x.lives(1));
    // as many TOKENS as there can be
    Check.fault(x, 2, 0, Check.town(x, ";".repeat(800)));
    Check.fault(x, 2, 799, Check.town(x, "thing a;" + " ".repeat(791) + ";"));
    Check.fault(x, 1, 799, Check.town(x, "thing a;" + " ".repeat(791) + "#"));
    Check.well(x, 1, Check.town(x, "thing a;" + "\n".repeat(792)));
    // blanks (10, 32) where one likes, none where TOKENS end by themselves
    Check.well(x, 1, Check.town(x, "\n thing\n\na;making m gives a hours 1hands 3;person p from 0to 24ill 16;want a at 7worth 9eaten;\n"));
    Check.told(x, 1, x.want(0, 3));
    Check.told(x, 3, x.making(0, 2));
  }

  /** A kind, a blank, and a text with ^ ahead of the TOKEN that is the FAULT. */
  private static void faultAtMark(String part, OverNight x, String marked) {
    Check.part(part + ", FAULT " + marked);
    int place = marked.indexOf('^') - 2;
    String text = marked.substring(2).replace("^", "");
    int got = part.equals("10 town") ? Check.town(x, text) : part.equals("11 law") ? Check.law(x, text) : Check.plan(x, text);
    Check.fault(x, marked.charAt(0) - '0', place, got);
  }

  private static void townFaults() {
    Check.part("10 town, FAULTS");
    OverNight x = new OverNight();
    String[] texts = {
      "1 thing a;^\t", "1 thing ^A;", "1 ^\0", "1 thing a^\u00e9;", "1 thing a^-;",
      "2 thing^", "2 thing ^", "2 thing a^", "2 ^a;", "2 thing a;^;", "2 thing ^;",
      "2 thing ^1;", "2 thing ^wear;", "2 thing a ^a;", "2 thing a send ^wear;", "2 thing a wear ^wear;",
      "2 thing ^abcdefghi;", "2 thing ^abcdefghijklmnopqrst;", "2 ^abcdefghi;", "2 ^wear;", "2 ^stays;",
      "2 thing ^day;", "2 thing ^hold;", "2 thing ^by;", "2 thing ^here;", "2 thing ^not;",
      "2 ^12;", "1 ^12345;", "1 thing ^00001;",
      "3 thing a; thing ^a;", "3 thing a; making ^a gives a hours 1 hands 1;",
      "3 thing a; making m gives a hours 1 hands 1; thing ^m;", "3 thing a; person ^a from 1 to 2;",
      "3 making m gives ^m hours 1 hands 1;", "3 making m gives ^b hours 1 hands 1; thing b;",
      "3 want ^b at 1 worth 1;", "3 person p from 1 to 2; want    ^p at 1 worth 1;",
      "3 thing a; making m gives a hours 1 hands 1 of ^b;", "3 thing a; making m gives a hours 1 hands 1 with ^b;",
      "5 thing a; making m gives a hours 1 hands 1 of a ^a;", "5 thing a; making m gives a hours 1 hands 1 of a with ^a;",
      "5 thing a; making m gives a hours 1 hands 1 with a ^a;",
      "2 thing a; making m gives a hours 1 hands 1 of^;", "2 thing a; making m gives a hours 1 hands 1 of a ^of a;",
      "2 thing a; making m gives a hours 1 hands 1 with^;", "2 thing a; making m gives a hours 1 hands 1 with a ^of a;",
      "2 thing a; making m ^hours 1 hands 1;", "2 thing a; making m gives a ^hands 1 hours 1;",
      "2 thing a; making m gives a hours ^hands 1;", "2 thing a; making m gives a hours ^a hands 1;",
      "2 person p ^to 1 from 2;", "2 person p from 1 ^2;", "2 person p from 1 to 23;^;",
      "2 thing a; want a ^worth 1 at 1;", "2 thing a; want a at 1 ^1;", "2 thing a; want a at 1 worth 1 ^1;",
    };
    for (String t : texts) faultAtMark("10 town", x, t);
    // any other reserved word: none may be a NAME
    for (String w : "thing wear send making gives hours hands of with person from to ill want at worth eaten stays worn held sent here day or and not by hold".split(" ")) {
      Check.fault(x, 2, 6, Check.town(x, "thing " + w + ";"));
    }
    // words that only begin alike, and the longest one
    Check.part("10 town, NAMES");
    Check.well(x, 4, Check.town(x, "thing things; thing o; thing abcdefgh; thing zzzzzzzz;"));
  }

  private static void townNumbers() {
    Check.part("10 town, NUMBERS");
    OverNight x = new OverNight();
    Check.fault(x, 4, 32, Check.town(x, "thing a; making m gives a hours 0 hands 1;"));
    Check.fault(x, 4, 32, Check.town(x, "thing a; making m gives a hours 25 hands 1;"));
    Check.fault(x, 4, 40, Check.town(x, "thing a; making m gives a hours 1 hands 0;"));
    Check.fault(x, 4, 40, Check.town(x, "thing a; making m gives a hours 1 hands 4;"));
    Check.well(x, 1, Check.town(x, "thing a; making m gives a hours 0024 hands 3;"));
    Check.told(x, 24, x.making(0, 1));
    Check.fault(x, 4, 14, Check.town(x, "person p from 25 to 1;"));
    Check.fault(x, 4, 19, Check.town(x, "person p from 1 to 25;"));
    Check.fault(x, 4, 25, Check.town(x, "person p from 1 to 2 ill 17;"));
    Check.well(x, 0, Check.town(x, "person p from 24 to 0 ill 0; person q from 0 to 24 ill 16;"));
    Check.fault(x, 4, 19, Check.town(x, "thing a; want a at 25 worth 1;"));
    Check.fault(x, 4, 27, Check.town(x, "thing a; want a at 1 worth 0;"));
    Check.fault(x, 4, 28, Check.town(x, "thing a; want a at 24 worth 1000;"));
    Check.well(x, 1, Check.town(x, "thing a; want a at 24 worth 999; want a at 0 worth 1;"));
    // 5 digits and more are no TOKEN, where no NUMBER may stand, too
    Check.fault(x, 1, 32, Check.town(x, "thing a; making m gives a hours 00001 hands 1;"));
    Check.fault(x, 1, 6, Check.town(x, "thing 12345;"));
  }

  private static void townTooMany() {
    Check.part("10 town, one too many");
    OverNight x = new OverNight();
    StringBuilder s = new StringBuilder();
    for (int i = 0; i < 8; i++) s.append("thing t").append((char) ('a' + i)).append(';');
    Check.well(x, 8, Check.town(x, s.toString()));
    Check.fault(x, 6, s.length(), Check.town(x, s + "thing ta;"));
    s.setLength(0);
    s.append("thing a;");
    for (int i = 0; i < 12; i++) s.append("making m").append((char) ('a' + i)).append(" gives a hours 1 hands 1;");
    Check.well(x, 1, Check.town(x, s.toString()));
    Check.told(x, 12, x.many(1));
    Check.fault(x, 6, s.length() + 1, Check.town(x, s + " making"));
    s.setLength(0);
    for (int i = 0; i < 6; i++) s.append("person p").append((char) ('a' + i)).append(" from 1 to 2;");
    Check.well(x, 0, Check.town(x, s.toString()));
    Check.told(x, 6, x.many(2));
    Check.fault(x, 6, s.length(), Check.town(x, s + "person pa from 1 to 2;"));
    s.setLength(0);
    s.append("thing a;");
    for (int i = 0; i < 8; i++) s.append("want a at 1 worth 2;");
    Check.well(x, 1, Check.town(x, s.toString()));
    Check.told(x, 8, x.many(3));
    Check.fault(x, 6, s.length(), Check.town(x, s + "want a at 1 worth 2;"));
  }

  private static void promise11() {
    Check.part("11 law");
    OverNight x = Check.in(AB);
    Check.no(x, 5, x.law(1));
    Check.no(x, 5, x.law(-1));
    Check.well(x, 1, Check.law(x, "b stays worn;"));
    Check.told(x, 0, x.thing(0, 2));
    Check.told(x, 1, x.thing(1, 2));
    // likewise: in place of the one ahead, and the tape is empty then
    Check.well(x, 1, Check.law(x, "a stays not not not not not held;"));
    Check.told(x, 1, x.thing(0, 2));
    Check.told(x, 0, x.thing(1, 2));
    Check.well(x, 0, x.law(0));
    Check.told(x, 0, x.thing(0, 2));
    String long300 = ("a stays held;" + " ".repeat(300)).substring(0, 300);
    Check.well(x, 1, Check.law(x, long300));
    Check.no(x, 5, Check.law(x, long300 + " "));
    Check.well(x, 1, x.law(300));
    Check.no(x, 5, x.law(1));
    // as much left open as can be: each level waits for its last
    x = Check.in("thing a wear;");
    Check.well(x, 1, Check.law(x, "a stays sent or worn and (sent or worn and (sent or worn and (sent or worn and (sent or worn and (sent or worn and worn)))));"));
    Check.told(x, 1, x.night(1, 0, -1, -1, 0));
    Check.told(x, 0, x.night(1, -1, -1, -1, 0));
    // "and" is joined ahead of "or", not binds most
    x = Check.in("thing a wear send; thing b; person p from 0 to 0;", "a stays held and worn or sent; b stays not held and here a;");
    Check.told(x, 1, x.night(1, -1, -1, 0, 0));
    Check.told(x, 0, x.night(1, -1, 0, -1, 0));
    Check.told(x, 1, x.night(1, 0, 0, -1, 0));
    Check.told(x, 2, x.night(3, -1, -1, -1, 0));
    Check.told(x, 0, x.night(3, -1, 1, -1, 0));
    Check.well(x, 1, Check.law(x, "a stays held and (worn or sent);"));
    Check.told(x, 0, x.night(1, -1, -1, 0, 0));
    Check.told(x, 1, x.night(1, -1, 0, 0, 0));
  }

  private static void lawFaults() {
    OverNight x = Check.in(AB + "person p from 1 to 2; making m gives a hours 1 hands 1;");
    String[] texts = {
      "1 a stays ^* worn;", "2 a^", "2 a ^worn;", "2 ^stays worn;", "2 ^; a stays worn;", "2 a stays ^;",
      "2 a stays worn^", "2 a stays worn ^worn;", "2 a stays ^a;", "2 a stays ^1;", "2 a stays worn or^;",
      "2 a stays worn and^;", "2 a stays not^;", "2 a stays (worn^;", "2 a stays worn^);", "2 a stays (^);",
      "2 a stays here^;", "2 a stays here ^worn;", "2 a stays day ^3;", "2 a stays day <^;", "2 a stays day <^< 3;",
      "2 ^abcdefghi stays worn;", "2 a stays ^abcdefghi;",
      "3 ^c stays worn;", "3 ^p stays worn;", "3 ^m stays worn;", "3 a stays here ^p;", "3 a stays here ^zz;",
      "4 a stays day = ^7;", "4 a stays day < ^9999;", "1 a stays day < ^00000;",
      "5 a stays worn; ^a stays held;", "5 a stays worn; ^a",
      "7 a stays not not not not not not ^worn;", "7 a stays not not not not not not ^not worn;",
      "7 a stays ((((((^worn))))));", "7 a stays ((((((^(worn)))))));", "7 a stays (not (not (not ^worn)));",
      "2 a stays ((((((^);", "2 a stays not not not not not not ^;", "1 a stays not not not not not not ^#;",
    };
    for (String t : texts) faultAtMark("11 law", x, t);
    Check.part("11 law, edges");
    Check.well(x, 1, Check.law(x, "a stays not not not not not worn;"));
    Check.well(x, 1, Check.law(x, "a stays (((((worn)))));"));
    Check.well(x, 1, Check.law(x, "a stays not (not (not worn)) or (((((worn or held)))));"));
    Check.well(x, 2, Check.law(x, "a stays day = 0 or day > 6; b stays day < 6;"));
    String twenty = "a stays worn" + " or worn".repeat(9) + ";b stays held" + " or sent".repeat(8);
    Check.well(x, 2, Check.law(x, twenty + " or here a;"));
    Check.fault(x, 6, twenty.length() + 15, Check.law(x, twenty + " or here a and day < 4;"));
    // a 21st CASE that is too deep as well: the least kind; and the 20th
    Check.fault(x, 6, twenty.length() + 13 + 24, Check.law(x, twenty + " or worn and not not not not not not held;"));
    Check.fault(x, 7, twenty.length() + 4 + 24, Check.law(x, twenty + " or not not not not not not held;"));
  }

  private static void promise12() {
    Check.part("12 plan");
    OverNight x = Check.in("thing a wear send; making m gives a hours 1 hands 2; person p from 0 to 0; person q from 0 to 0;");
    Check.no(x, 5, x.plan(1));
    Check.no(x, 5, x.plan(-1));
    Check.no(x, 8, x.done(0, 0));
    Check.well(x, 0, x.plan(0));
    Check.told(x, 0, x.done(0, 0));
    Check.well(x, 4, Check.plan(x, "at 23 m by p q; send a; wear a; hold a;"));
    Check.told(x, 4, x.many(4));
    Check.well(x, 1, Check.plan(x, "at 0 m by p;"));
    Check.told(x, 1, x.many(4));
    String long300 = ("at 0 m by p;" + " ".repeat(300)).substring(0, 300);
    Check.no(x, 5, Check.plan(x, long300 + " "));
    Check.well(x, 1, x.plan(300));
    Check.no(x, 5, x.plan(1));
  }

  private static void planFaults() {
    OverNight x = Check.in("thing a wear send; making m gives a hours 1 hands 2; person p from 0 to 0; person q from 0 to 0;");
    String[] texts = {
      "1 at 1 ^M by p;", "2 ^m by p;", "2 ^;", "2 at ^m by p;", "2 at 1 m ^p;", "2 at 1 m by^;",
      "2 at 1 m by p^", "2 at 1 m by p ^by q;", "2 at 1 ^by p;", "2 wear ^;", "2 wear a^",
      "2 wear a ^a;", "2 hold ^hold;", "2 at 1 ^abcdefghi by p;",
      "3 at 1 ^a by p;", "3 at 1 ^p by p;", "3 at 1 m by ^a;", "3 at 1 m by p ^r;", "3 wear ^m;", "3 hold ^p;",
      "3 send ^b;", "4 at ^24 m by p;", "1 at ^00024 m by p;",
      "5 at 1 m by p ^p;", "5 at 1 m by p q ^p;", "5 wear a; ^wear a;", "5 hold a; wear a; ^hold a;", "5 send a; ^send",
    };
    for (String t : texts) faultAtMark("12 plan", x, t);
    Check.part("12 plan, 24 JOBS");
    String jobs = "at 1m by p;".repeat(24);
    Check.well(x, 24, Check.plan(x, jobs));
    Check.fault(x, 6, 264, Check.plan(x, jobs + "at 1m by p;"));
    Check.fault(x, 6, 265, Check.plan(x, jobs + " wear a;"));
    String told = "wear a;" + "at 1m by p;".repeat(23);
    Check.fault(x, 5, told.length(), Check.plan(x, told + "wear a;"));
    Check.fault(x, 6, told.length(), Check.plan(x, told + "hold a;"));
    Check.told(x, 24, x.many(4));
  }

  private static void promise13() {
    Check.part("13 fault");
    OverNight x = new OverNight();
    Check.due(-1, x.fault(0));
    Check.due(-1, x.fault(1));
    x.town(1);
    Check.due(-1, x.fault(0));
    Check.due(5, x.status());
    Check.town(x, "thing a;");
    Check.due(0, x.fault(0));
    Check.due(-1, x.fault(1));
    Check.due(-1, x.fault(2));
    Check.due(-1, x.fault(-1));
    Check.law(x, "a stays");
    Check.due(2, x.fault(0));
    Check.due(7, x.fault(1));
    Check.due(-1, x.fault(2));
    // 5 is none of these; fault() leaves STATUS alone; a FAULT is no part of what a MARK keeps
    x.mark();
    x.plan(7);
    Check.due(2, x.fault(0));
    Check.due(5, x.status());
    Check.plan(x, "at 1 m");
    Check.due(3, x.fault(0));
    Check.due(5, x.fault(1));
    x.back();
    Check.due(3, x.fault(0));
    x.law(0);
    Check.due(0, x.fault(0));
    Check.due(-1, x.fault(1));
  }

  private static void promise14() {
    Check.part("14 many");
    OverNight x = Check.in("thing a; thing b; thing c; making m gives a hours 1 hands 1; making n gives a hours 1 hands 1;"
        + "person p from 23 to 0; person q from 0 to 23; want a at 1 worth 1; want a at 1 worth 1; want a at 1 worth 1; want b at 1 worth 1;", "", "hold a;");
    int[] due = {3, 2, 2, 4, 1, 0};
    for (int i = 0; i < 6; i++) Check.told(x, due[i], x.many(i));
    Check.no(x, 5, x.many(6));
    Check.no(x, 5, x.many(-1));
    // AWAKE: one PERSON in both HOURS, not two of them in one each
    Check.town(x, "person p from 22 to 1;");
    Check.told(x, 1, x.many(5));
    Check.town(x, "person p from 0 to 24;");
    Check.told(x, 1, x.many(5));
    Check.town(x, "person p from 23 to 24; person q from 24 to 0; person r from 1 to 24;");
    Check.told(x, 0, x.many(5));
    Check.town(x, "person p from 1 to 2; person q from 5 to 5;");
    Check.told(x, 1, x.many(5));
  }

  private static void promise15() {
    Check.part("15 thing");
    OverNight x = Check.in("thing a; thing b wear; thing c send; thing d wear send;", "c stays worn; d stays held;");
    int[][] due = {{0, 0, 0}, {1, 0, 0}, {0, 1, 1}, {1, 1, 1}};
    for (int k = 0; k < 4; k++) for (int w = 0; w < 3; w++) Check.told(x, due[k][w], x.thing(k, w));
    Check.no(x, 2, x.thing(4, 0));
    Check.no(x, 2, x.thing(-1, 9));
    Check.no(x, 5, x.thing(0, 3));
    Check.no(x, 5, x.thing(0, -1));
  }

  private static void promise16() {
    Check.part("16 making");
    OverNight x = Check.in("thing a; thing b; thing c; thing d; making m gives b hours 24 hands 3; making n gives a hours 1 hands 1 of d b with c a;"
        + " making o gives d hours 7 hands 2 with d; making p gives d hours 7 hands 2 of d;");
    int[][] due = {{1, 24, 3, 0, 0}, {0, 1, 1, 10, 5}, {3, 7, 2, 0, 8}, {3, 7, 2, 8, 0}};
    for (int m = 0; m < 4; m++) for (int w = 0; w < 5; w++) Check.told(x, due[m][w], x.making(m, w));
    Check.no(x, 2, x.making(4, 0));
    Check.no(x, 2, x.making(-1, 9));
    Check.no(x, 5, x.making(0, 5));
    Check.no(x, 5, x.making(0, -1));
  }

  private static void promise17() {
    Check.part("17 awake");
    OverNight x = Check.in("person a from 6 to 18; person b from 18 to 6; person c from 7 to 7; person d from 0 to 24; person e from 24 to 0; person f from 24 to 3;");
    for (int h = 0; h < 24; h++) {
      Check.told(x, h >= 6 && h < 18 ? 1 : 0, x.awake(0, h));
      Check.told(x, h >= 6 && h < 18 ? 0 : 1, x.awake(1, h));
      Check.told(x, 1, x.awake(2, h));
      Check.told(x, 1, x.awake(3, h));
      Check.told(x, 0, x.awake(4, h));
      Check.told(x, h < 3 ? 1 : 0, x.awake(5, h));
    }
    Check.no(x, 2, x.awake(6, 0));
    Check.no(x, 2, x.awake(-1, 24));
    Check.no(x, 5, x.awake(0, 24));
    Check.no(x, 5, x.awake(0, -1));
  }

  private static void promise18() {
    Check.part("18 want");
    OverNight x = Check.in("thing a; thing b; want b at 24 worth 999 eaten; want a at 0 worth 1;");
    int[][] due = {{1, 24, 999, 1}, {0, 0, 1, 0}};
    for (int k = 0; k < 2; k++) for (int w = 0; w < 4; w++) Check.told(x, due[k][w], x.want(k, w));
    Check.no(x, 2, x.want(2, 0));
    Check.no(x, 2, x.want(-1, 9));
    Check.no(x, 5, x.want(0, 4));
    Check.no(x, 5, x.want(0, -1));
  }
}
