/** The edges that the document names for the tape and the texts: each sentence by itself, on both its sides. */
public final class TextEdgeTest {
  private static final Edge FULL = new Edge(Full::make);
  private static final Edge BARE = new Edge(Full::bare);
  /** For LAWS and PLANS: THINGS a, b, cccccccc, MAKINGS m, mmmmmmmm, PEOPLE p, q. */
  private static final Edge SMALL = new Edge(() -> Check.in("thing a wear send; thing b; thing cccccccc; making m gives a hours 1 hands 1;"
      + " making mmmmmmmm gives a hours 1 hands 1; person p from 0 to 0; person q from 0 to 0;", "a stays worn;", "wear a;"));
  private static final String MAKING = "thing a; thing b; making m gives a hours 1 hands 1";

  public static void main(String[] args) {
    tapeOf800();
    twentyBytesHighestFirst();
    townOf800();
    lawOf300();
    planOf300();
    emptyTexts();
    tapeIsEmptyThen();
    asLongAsTheyGo();
    asLongAsTheTextGoes();
    blanks();
    smallLetters();
    digits();
    numbersOfFourDigits();
    signs();
    namesOfEightLetters();
    namesThatAreNone();
    oneNameOfOneAlone();
    endOfTheText();
    leastKindOfOneToken();
    firstAlongTheText();
    eightThings();
    twelveMakings();
    sixPeople();
    eightWants();
    hoursOfAMaking();
    handsOfAMaking();
    hoursOfAPerson();
    sixteenths();
    timesOfAWant();
    worthOfAWant();
    toldAhead();
    ofOrWithAgain();
    perhapsAndAnyNumber();
    townInPlaceOfThatAhead();
    lawThings();
    lawNumbers();
    lawThingAgain();
    twentyCases();
    withinSix();
    lawGrammar();
    planTimes();
    planNames();
    planAgain();
    twentyFourJobs();
    planGrammar();
    faultOfTheLatest();
    Check.end("TextEdgeTest");
  }

  private static String blanks(int n) { return " ".repeat(n); }

  /** A text and blanks behind it: so many bytes. */
  private static String wide(String text, int n) { return text + blanks(n - text.length()); }

  private static OverNight taped(int fives, OverNight x, String text) {
    Check.feed(x, wide(text, 20 * fives));
    return x;
  }

  // ---- the tape.

  private static void tapeOf800() {
    Check.part("feed: NONE if there would be more than 800");
    OverNight x = new OverNight();
    x.town(9);
    Check.feed(x, wide("thing a;", 780));
    Check.due(800, x.feed(0x20202020, 0x20202020, 0x20202020, 0x20202020, 0x2020203b));
    Check.due(-1, x.feed(0x23232323, 0, 0, 0, 0));
    Check.due(-1, x.feed(0, 0, 0, 0, 0));
    // feed() has no STATUS; the tape is as it was: the ; at its end is a FAULT, and nothing behind it
    Check.due(5, x.status());
    Check.no(x, 5, x.town(801));
    Check.fault(x, 2, 799, x.town(800));
    Check.due(20, x.feed(0, 0, 0, 0, 0));
  }

  private static void twentyBytesHighestFirst() {
    Check.part("feed: twenty bytes, the highest of each int first");
    OverNight x = new OverNight();
    // thing a; thing b wea|r; and blanks: byte by byte over the seam of two feeds
    Check.due(20, x.feed(0x7468696e, 0x6720613b, 0x20746869, 0x6e672062, 0x20776561));
    Check.due(40, x.feed(0x723b2020, 0x20202020, 0x20202020, 0x20202020, 0x20202020));
    Check.well(x, 2, x.town(22));
    Check.told(x, 1, x.thing(1, 0));
    // a byte with its highest bit set is one of its own, and no sign of the next
    x.feed(0x7468696e, 0x67206180, 0x3b202020, 0x20202020, 0x20202020);
    Check.fault(x, 1, 7, x.town(20));
    x.feed(0xff746869, 0x6e672061, 0x3b202020, 0x20202020, 0x20202020);
    Check.fault(x, 1, 0, x.town(20));
  }

  private static void townOf800() {
    Check.part("town: a TEXT of at most 800 bytes, of those on the tape");
    Edge.Maker tape800 = () -> taped(40, Full.bare(), "thing a;" + blanks(784) + "thing b;");
    new Edge(tape800).well(2, x -> x.town(800));
    new Edge(tape800).refused(5, x -> x.town(801));
    new Edge(tape800).refused(5, x -> x.town(Integer.MAX_VALUE));
    Edge.Maker tape20 = () -> { OverNight x = Full.make(); x.town(20); return taped(1, x, "thing v; thing w;"); };
    new Edge(tape20).well(2, x -> x.town(20));
    new Edge(tape20).refused(5, x -> x.town(21));
    new Edge(tape20).well(0, x -> x.town(0));
    new Edge(tape20).refused(5, x -> x.town(-1));
    new Edge(tape20).refused(5, x -> x.town(Integer.MIN_VALUE));
    BARE.refused(5, x -> x.town(1));
  }

  private static void lawOf300() {
    Check.part("law: a TEXT of at most 300 bytes, of those on the tape");
    Edge.Maker tape320 = () -> taped(16, Check.in("thing a wear; thing b;", "b stays worn;", "wear a;"), "a stays worn;" + blanks(274) + "b stays held;");
    new Edge(tape320).well(2, x -> x.law(300));
    new Edge(tape320).refused(5, x -> x.law(301));
    new Edge(tape320).refused(5, x -> x.law(320));
    new Edge(tape320).refused(5, x -> x.law(321));
    Edge.Maker tape20 = () -> taped(1, Check.in("thing a wear; thing b;", "b stays worn;", "wear a;"), "a stays worn;");
    new Edge(tape20).well(1, x -> x.law(20));
    new Edge(tape20).refused(5, x -> x.law(21));
    new Edge(tape20).well(0, x -> x.law(0));
    new Edge(tape20).refused(5, x -> x.law(-1));
  }

  private static void planOf300() {
    Check.part("plan: a TEXT of at most 300 bytes, of those on the tape");
    Edge.Maker tape320 = () -> taped(16, Check.in("thing a wear; thing b;", "b stays worn;", "hold b;"), "wear a;" + blanks(286) + "hold a; ");
    new Edge(tape320).well(2, x -> x.plan(300));
    new Edge(tape320).refused(5, x -> x.plan(301));
    new Edge(tape320).refused(5, x -> x.plan(320));
    new Edge(tape320).refused(5, x -> x.plan(321));
    Edge.Maker tape20 = () -> taped(1, Check.in("thing a wear; thing b;", "b stays worn;", "hold b;"), "wear a; hold a;");
    new Edge(tape20).well(2, x -> x.plan(20));
    new Edge(tape20).refused(5, x -> x.plan(21));
    new Edge(tape20).well(0, x -> x.plan(0));
    new Edge(tape20).refused(5, x -> x.plan(-1));
  }

  private static void emptyTexts() {
    Check.part("{ }: any number of times, none as well");
    for (String text : new String[] {"", " ", "\n", blanks(21)}) {
      BARE.reads(0, "town", text);
      FULL.reads(0, "law", text);
      FULL.reads(0, "plan", text);
    }
    FULL.faulty(2, "town", "^;");
    FULL.faulty(2, "law", "^;");
    FULL.faulty(2, "plan", "^;");
    // an empty text is a TOWN, a LAW, a PLAN in place of that ahead
    OverNight x = Full.make();
    Check.well(x, 0, x.law(0));
    Check.told(x, 0, x.thing(0, 2));
    Check.well(x, 0, x.plan(0));
    Check.told(x, 0, x.many(4));
    Check.told(x, 0, x.lives(1));
    Check.well(x, 0, x.town(0));
    Check.no(x, 8, x.lives(1));
  }

  private static void tapeIsEmptyThen() {
    Check.part("town, law, plan: the tape is empty then, but for 5");
    for (int kind = 0; kind < 3; kind++) {
      int which = kind;
      Edge.Call call = x -> which == 0 ? x.town(9) : which == 1 ? x.law(9) : x.plan(9);
      // taken: all of it is gone, though 9 bytes were asked for
      OverNight x = taped(2, Full.untaped(), "");
      Check.told(x, 0, call.on(x));
      Check.due(20, x.feed(0, 0, 0, 0, 0));
      // a FAULT: all of it is gone
      Check.no(x, 10, call.on(x));
      Check.due(20, x.feed(0, 0, 0, 0, 0));
      // 5: it is there yet
      Check.no(x, 5, which == 0 ? x.town(21) : which == 1 ? x.law(21) : x.plan(21));
      Check.due(40, x.feed(0, 0, 0, 0, 0));
      Check.no(x, 5, which == 0 ? x.town(-1) : which == 1 ? x.law(-1) : x.plan(-1));
      Check.due(60, x.feed(0, 0, 0, 0, 0));
    }
  }

  // ---- TOKENS.

  private static void asLongAsTheyGo() {
    Check.part("TOKENS, as long as they go");
    FULL.reads(1, "town", "thing a;");
    FULL.faulty(2, "town", "^thinga;");
    FULL.reads(1, "town", "thing awear;");
    FULL.reads(1, "town", "thing a;want a at 1worth 2;");
    FULL.faulty(4, "town", "thing a;want a at ^112worth 2;");
    FULL.faulty(2, "town", "thing a;want a at 1 ^2worth 2;");
    // SIGNS are one byte each
    FULL.faulty(2, "town", "thing a;^;");
    SMALL.reads(1, "law", "a stays(((not(worn)or held)));");
    SMALL.reads(1, "law", "a stays day<3or day=3or day>5;");
    SMALL.faulty(2, "law", "a stays day<^=3;");
  }

  /** Reads as many bytes as stand ahead of |, where those behind it are on the tape, too. */
  private static void cut(int fault, int place, String town) {
    OverNight x = new OverNight();
    Check.feed(x, town.replace("|", ""));
    Check.fault(x, fault, place, x.town(town.indexOf('|')));
  }

  private static void asLongAsTheTextGoes() {
    Check.part("the first n bytes of the tape: a TOKEN ends with them, whatever stands behind");
    cut(2, 0, "thin|g a;");
    cut(2, 5, "thing|a;");
    cut(2, 7, "thing o|f;");
    cut(2, 7, "thing o|ff;");
    cut(2, 14, "thing abcdefgh|i;");
    cut(2, 6, "thing abcdefghi|;");
    String making = "thing a; making m gives a hours ";
    cut(2, making.length() + 2, making + "24|5 hands 1;");
    cut(4, making.length(), making + "245| hands 1;");
    cut(2, making.length() + 1, making + "1|2345 hands 1;");
    cut(4, making.length(), making + "1234|5 hands 1;");
    cut(1, making.length(), making + "12345| hands 1;");
    // nor is it what stood on the tape in an earlier text
    OverNight x = new OverNight();
    Check.feed(x, wide("", 20) + "g a;");
    Check.told(x, 0, x.town(20));
    Check.feed(x, blanks(16) + "thin");
    Check.fault(x, 2, 16, x.town(20));
    Check.feed(x, wide("", 20) + "5 hands 1;");
    Check.told(x, 0, x.town(20));
    Check.feed(x, "thing a; making m gives a hours       24");
    Check.fault(x, 2, 40, x.town(40));
    Check.feed(x, wide("", 40) + "5 hands 1;");
    Check.told(x, 0, x.town(40));
    Check.feed(x, "thing a; making m gives a hours       24");
    Check.fault(x, 2, 40, x.town(40));
  }

  private static void blanks() {
    Check.part("between TOKENS blanks (10, 32)");
    BARE.reads(1, "town", " thing a;");
    BARE.reads(1, "town", "\nthing\na\n;\n");
    BARE.reads(1, "town", "  \n \n thing \n\n a  ;");
    for (int c : new int[] {9, 11, 31, 33, 0, 13, 127, 160, 138, 255}) {
      FULL.faulty(1, "town", "thing a^" + (char) c + ";");
      FULL.faulty(1, "town", "^" + (char) c + "thing a;");
    }
  }

  private static void smallLetters() {
    Check.part("WORDS (small letters)");
    BARE.reads(2, "town", "thing a; thing z;");
    for (int c : new int[] {'a' - 1, 'z' + 1, 'A', 'Z', '_', 225, 250}) {
      FULL.faulty(1, "town", "thing ^" + (char) c + ";");
      FULL.faulty(1, "town", "thing a^" + (char) c + ";");
    }
  }

  private static void digits() {
    Check.part("NUMBERS (digits)");
    BARE.reads(0, "town", "person p from 10 to 19;");
    for (int c : new int[] {'0' - 1, '9' + 1}) FULL.faulty(1, "town", "person p from 1^" + (char) c + " to 2;");
  }

  private static void numbersOfFourDigits() {
    Check.part("NUMBERS (1 to 4 digits; of 5 digits and more: FAULT 1 at its first)");
    FULL.reads(1, "town", "thing a; want a at 0024 worth 0999;");
    FULL.faulty(1, "town", "thing a; want a at ^00024 worth 999;");
    FULL.faulty(1, "town", "thing a; want a at ^000000000000000000000024 worth 999;");
    FULL.faulty(4, "town", "thing a; want a at 1 worth ^9999;");
    FULL.faulty(1, "town", "thing a; want a at 1 worth ^10000;");
    FULL.faulty(1, "town", "thing a; want a at 1 worth ^99999");
    // where no NUMBER may stand, too
    FULL.faulty(2, "town", "thing ^1234;");
    FULL.faulty(1, "town", "thing ^12345;");
    SMALL.reads(1, "law", "a stays day < 0006;");
    SMALL.faulty(1, "law", "a stays day < ^00006;");
    SMALL.reads(1, "plan", "at 0023 m by p;");
    SMALL.faulty(1, "plan", "at ^00023 m by p;");
  }

  private static void signs() {
    Check.part("SIGNS ; < > = ( )");
    for (char c : ";<>=()".toCharArray()) FULL.faulty(2, "town", "thing ^" + c);
    // all others from 33 to 126 begin no TOKEN
    for (char c = 33; c < 127; c++) {
      boolean token = ";<>=()".indexOf(c) >= 0 || c >= 'a' && c <= 'z' || c >= '0' && c <= '9';
      OverNight x = new OverNight();
      Check.fault(x, token ? 2 : 1, 0, Check.town(x, "" + c));
    }
  }

  private static void namesOfEightLetters() {
    Check.part("NAME: a WORD of 1 to 8 letters (9 letters and more: FAULT 2)");
    String[] ofEight = {"thing ^aaaaaaaa;", "thing x; making ^aaaaaaaa gives x hours 1 hands 1;", "person ^aaaaaaaa from 1 to 2;"};
    for (String text : ofEight) {
      BARE.reads(text.contains("thing") ? 1 : 0, "town", text.replace("^", ""));
      FULL.faulty(2, "town", text.replace("aaaaaaaa", "aaaaaaaaa"));
      FULL.faulty(2, "town", text.replace("aaaaaaaa", "a".repeat(40)));
    }
    // where a NAME told ahead must stand: of 8 letters and more than those told it is another one, of 9 it can't stand there
    String told = "thing aaaaaaaa; ";
    FULL.reads(1, "town", told + "want aaaaaaaa at 1 worth 1;");
    FULL.faulty(3, "town", told + "want ^aaaaaaa at 1 worth 1;");
    FULL.faulty(2, "town", told + "want ^aaaaaaaaa at 1 worth 1;");
    FULL.faulty(2, "town", told + "making m gives ^aaaaaaaaa hours 1 hands 1;");
    FULL.faulty(2, "town", told + "making m gives aaaaaaaa hours 1 hands 1 of ^aaaaaaaaa;");
    FULL.faulty(2, "town", told + "making m gives aaaaaaaa hours 1 hands 1 with ^aaaaaaaaa;");
    // two NAMES of 8 letters that are alike but for the last, and but for the first
    FULL.reads(3, "town", "thing abcdefgh; thing abcdefgi; thing bbcdefgh;");
    FULL.faulty(3, "town", "thing abcdefgh; thing ^abcdefgh;");
    SMALL.reads(1, "law", "cccccccc stays here cccccccc;");
    SMALL.faulty(2, "law", "^ccccccccc stays worn;");
    SMALL.faulty(2, "law", "a stays here ^ccccccccc;");
    SMALL.reads(1, "plan", "at 1 mmmmmmmm by p;");
    SMALL.faulty(2, "plan", "at 1 ^mmmmmmmmm by p;");
    SMALL.faulty(2, "plan", "wear ^ccccccccc;");
    SMALL.faulty(2, "plan", "at 1 m by ^ppppppppp;");
    SMALL.faulty(2, "plan", "at 1 m by p ^ppppppppp;");
  }

  private static final String[] NO_NAMES = {"thing", "wear", "send", "making", "gives", "hours", "hands", "of", "with", "person", "from", "to", "ill",
      "want", "at", "worth", "eaten", "stays", "worn", "held", "sent", "here", "day", "or", "and", "not", "by", "hold"};

  private static void namesThatAreNone() {
    Check.part("NAME: none of thing, wear, .. hold");
    Check.due(28, NO_NAMES.length);
    for (String word : NO_NAMES) {
      OverNight x = new OverNight();
      Check.fault(x, 2, 6, Check.town(x, "thing " + word + ";"));
      Check.fault(x, 2, 7, Check.town(x, "making " + word + " "));
      Check.fault(x, 2, 7, Check.town(x, "person " + word + " from 1 to 2;"));
      // a letter more or less and it is a NAME
      Check.well(x, 1, Check.town(x, "thing " + word + "s;"));
      Check.well(x, 1, Check.town(x, "thing x" + word + ";"));
      String less = word.substring(1);
      if (!less.isEmpty() && !java.util.Arrays.asList(NO_NAMES).contains(less)) Check.well(x, 1, Check.town(x, "thing " + less + ";"));
      String shorter = word.substring(0, word.length() - 1);
      if (!shorter.isEmpty() && !java.util.Arrays.asList(NO_NAMES).contains(shorter)) Check.well(x, 1, Check.town(x, "thing " + shorter + ";"));
    }
  }

  private static void oneNameOfOneAlone() {
    Check.part("One NAME is of one thing, making or person alone (FAULT 3)");
    String[] first = {"thing x;", "thing w; making x gives w hours 1 hands 1;", "person x from 1 to 2;"};
    String[] then = {"thing ^x;", "thing v; making ^x gives v hours 1 hands 1;", "person ^x from 1 to 2;"};
    for (String f : first) {
      for (String t : then) {
        FULL.faulty(3, "town", f + t);
        OverNight y = new OverNight();
        Check.due(true, Check.town(y, f + t.replace("^x", "y")) >= 0);
        Check.due(0, y.status());
      }
    }
    // the NAMES of another TOWN are free; WANTS have none
    OverNight x = Check.in("thing x;");
    Check.well(x, 0, Check.town(x, "person x from 1 to 2;"));
    Check.well(x, 1, Check.town(x, "thing x; want x at 1 worth 1; want x at 1 worth 1;"));
  }

  private static void endOfTheText() {
    Check.part("FAULT 2 at the end: the text's length");
    String whole = "thing a wear send; making m gives a hours 2 hands 1 of a; person p from 1 to 2 ill 3; want a at 1 worth 2 eaten;";
    BARE.reads(1, "town", whole);
    for (int end = 1; end < whole.length(); end++) {
      String part = whole.substring(0, end);
      OverNight x = new OverNight();
      int got = Check.town(x, part);
      boolean ends = part.endsWith(";") || part.endsWith("; ");
      if (ends) Check.due(0, x.status());
      // a PART's word or a NAME that is cut off is another one: at its first letter
      boolean cut = Character.isLetter(whole.charAt(end)) && Character.isLetter(whole.charAt(end - 1));
      if (!ends && !cut) Check.fault(x, 2, end, got);
      if (!ends && cut) Check.fault(x, 2, part.lastIndexOf(' ') + 1, got);
    }
    // blanks behind the last TOKEN count, bytes behind the text do not
    FULL.faulty(2, "town", "thing a   ^");
    FULL.faulty(2, "town", "thing ^");
    OverNight x = new OverNight();
    Check.feed(x, "thing a;");
    Check.fault(x, 2, 7, x.town(7));
    Check.feed(x, "thing aa;");
    Check.fault(x, 2, 7, x.town(7));
    SMALL.faulty(2, "law", "a stays worn ^");
    SMALL.faulty(2, "law", "a^");
    SMALL.faulty(2, "plan", "at 1 m by p^");
    SMALL.faulty(2, "plan", "wear^");
  }

  private static void leastKindOfOneToken() {
    Check.part("of one TOKEN the least kind");
    // 1 ahead of 2: what begins no TOKEN where another one must stand
    FULL.faulty(1, "town", "thing ^#");
    FULL.faulty(1, "town", "^#");
    // 2 ahead of 3: a WORD of 9 letters is no NAME, be it told or not
    FULL.faulty(2, "town", "want ^abcdefghi at 1 worth 1;");
    // 1 ahead of 4
    FULL.faulty(1, "town", "person p from ^10000 to 1;");
    // a PLAN's 5 ahead of 6
    String told = "wear a;" + "at 1m by p;".repeat(23);
    SMALL.faulty(5, "plan", told + "^wear a;");
    SMALL.faulty(6, "plan", told + "^hold a;");
    // a LAW's 2 and 6 ahead of 7
    SMALL.faulty(2, "law", "a stays not not not not not not ^;");
    SMALL.faulty(2, "law", "a stays not not not not not not ^and worn;");
    SMALL.faulty(1, "law", "a stays not not not not not not ^?;");
    String twenty = "a stays worn" + " or worn".repeat(19);
    SMALL.faulty(6, "law", twenty + " or ((((((^worn))))));");
    SMALL.faulty(7, "law", twenty + " or ((((((^(worn)))))));");
    SMALL.faulty(7, "law", "a stays worn" + " or worn".repeat(18) + " or ((((((^worn))))));");
  }

  private static void firstAlongTheText() {
    Check.part("FAULTS, the first along the text");
    FULL.faulty(3, "town", "thing a; thing ^a; # 12345 want b at 99;");
    FULL.faulty(2, "town", "thing a ^thing a # 12345;");
    FULL.faulty(4, "town", "person p from ^25 to 12345;");
    FULL.faulty(1, "town", "person p from 24 to ^12345; thing thing;");
    SMALL.faulty(3, "law", "^x stays day < 9;");
    SMALL.faulty(4, "law", "a stays day < ^9; x stays worn;");
    SMALL.faulty(4, "plan", "at ^24 x by y;");
    SMALL.faulty(3, "plan", "at 23 ^x by y;");
  }

  // ---- the TOWN's numbers.

  private static String letter(int k) { return "" + (char) ('a' + k); }

  private static String things(int n) {
    StringBuilder s = new StringBuilder();
    for (int k = 0; k < n; k++) s.append("thing t").append(letter(k)).append(';');
    return s.toString();
  }

  private static String makings(int n) {
    StringBuilder s = new StringBuilder();
    for (int k = 0; k < n; k++) s.append("making m").append(letter(k)).append(" gives ta hours ").append(k + 1).append(" hands 1;");
    return s.toString();
  }

  private static String people(int n) {
    StringBuilder s = new StringBuilder();
    for (int k = 0; k < n; k++) s.append("person p").append(letter(k)).append(" from ").append(k).append(" to ").append(k + 1).append(';');
    return s.toString();
  }

  private static String wants(int n) {
    StringBuilder s = new StringBuilder();
    for (int k = 0; k < n; k++) s.append("want ta at ").append(k).append(" worth ").append(k + 1).append(';');
    return s.toString();
  }

  private static void tooMany(String most, String more) {
    for (String behind : new String[] {more, more.substring(0, more.indexOf(' ')), more.substring(0, more.indexOf(' ')) + " #", more + " #"}) {
      FULL.faulty(6, "town", most + "^" + behind);
      FULL.faulty(6, "town", most + " \n^" + behind);
    }
  }

  private static void eightThings() {
    Check.part("THINGS, at most 8 (FAULT 6 at its first WORD)");
    BARE.reads(8, "town", things(8));
    tooMany(things(8), "thing ti;");
    tooMany(things(8), "thing ta;");
    OverNight x = Check.in(things(8));
    Check.told(x, 8, x.many(0));
    Check.told(x, 0, x.thing(7, 0));
    Check.told(x, 0, x.day(255, 24));
    Check.no(x, 2, x.day(256, 24));
    Check.no(x, 2, x.thing(8, 0));
  }

  private static void twelveMakings() {
    Check.part("MAKINGS, at most 12 (FAULT 6 at its first WORD)");
    BARE.reads(1, "town", things(1) + makings(12));
    tooMany(things(1) + makings(12), "making mm gives ta hours 1 hands 1;");
    OverNight x = Check.in(things(1) + makings(12));
    Check.told(x, 12, x.many(1));
    Check.told(x, 12, x.making(11, 1));
    Check.no(x, 2, x.making(12, 1));
    Check.told(x, 0, x.day(0, 0));
    Check.told(x, 1, x.labour(1, 0));
    Check.told(x, 1, x.soonest(0, 0));
    // the others count by themselves
    BARE.reads(8, "town", things(8) + makings(12) + people(6) + wants(8));
  }

  private static void sixPeople() {
    Check.part("PEOPLE, at most 6 (FAULT 6 at its first WORD)");
    BARE.reads(0, "town", people(6));
    tooMany(people(6), "person pg from 1 to 2;");
    OverNight x = Check.in(people(6));
    Check.told(x, 6, x.many(2));
    Check.told(x, 1, x.awake(5, 5));
    Check.no(x, 2, x.awake(6, 5));
    Check.told(x, 0, x.many(5));
    Check.told(x, 63, x.shift(63));
    Check.no(x, 9, x.shift(64));
  }

  private static void eightWants() {
    Check.part("WANTS, at most 8 (FAULT 6 at its first WORD)");
    BARE.reads(1, "town", things(1) + wants(8));
    tooMany(things(1) + wants(8), "want ta at 1 worth 1;");
    tooMany(things(1) + wants(8), "want zz at 1 worth 1;");
    OverNight x = Check.in(things(1) + wants(8));
    Check.told(x, 8, x.many(3));
    Check.told(x, 8, x.want(7, 2));
    Check.no(x, 2, x.want(8, 2));
    Check.told(x, 36, x.day(1, 0));
  }

  private static void hoursOfAMaking() {
    Check.part("MAKINGS: in so many hours (1 to 24)");
    for (int h : new int[] {1, 24}) {
      OverNight x = Check.in("thing a; making m gives a hours " + h + " hands 1;");
      Check.told(x, h, x.making(0, 1));
      Check.told(x, h, x.soonest(0, 0));
    }
    for (int h : new int[] {0, 25, 9999}) FULL.faulty(4, "town", "thing a; making m gives a hours ^" + h + " hands 1;");
  }

  private static void handsOfAMaking() {
    Check.part("MAKINGS: by so many hands (1 to 3)");
    for (int h : new int[] {1, 3}) {
      OverNight x = Check.in("thing a; making m gives a hours 1 hands " + h + ";");
      Check.told(x, h, x.making(0, 2));
      Check.told(x, h, x.hands(1));
    }
    for (int h : new int[] {0, 4, 9999}) FULL.faulty(4, "town", "thing a; making m gives a hours 1 hands ^" + h + ";");
  }

  private static void hoursOfAPerson() {
    Check.part("PEOPLE: HOURS from one on up to one (0 to 24 each)");
    for (String text : new String[] {"person p from 0 to 24;", "person p from 24 to 0;", "person p from 0 to 0;", "person p from 24 to 24;"}) BARE.reads(0, "town", text);
    FULL.faulty(4, "town", "person p from ^25 to 0;");
    FULL.faulty(4, "town", "person p from 0 to ^25;");
    FULL.faulty(4, "town", "person p from ^9999 to 0;");
    FULL.faulty(4, "town", "person p from 0 to ^9999;");
  }

  private static void sixteenths() {
    Check.part("PEOPLE: ILL with so many sixteenths (0 to 16; 0 without)");
    String town = "thing a; making m gives a hours 1 hands 1; person p from 0 to 0 ill 16; want a at 1 worth 1;";
    OverNight x = Check.in(town, "", "at 0 m by p;");
    Check.told(x, 0, x.ill(1, 99));
    Check.told(x, 99, x.lived(0));
    for (String never : new String[] {town.replace(" ill 16", ""), town.replace("ill 16", "ill 0")}) {
      x = Check.in(never, "", "at 0 m by p;");
      Check.told(x, 99, x.ill(1, 99));
      Check.told(x, 0, x.lived(0));
    }
    for (String some : new String[] {town.replace("ill 16", "ill 1"), town.replace("ill 16", "ill 15")}) {
      x = Check.in(some, "", "at 0 m by p;");
      int worth = x.ill(1, 99);
      Check.due(true, worth > 0 && worth < 99);
    }
    FULL.faulty(4, "town", "person p from 0 to 0 ill ^17;");
    FULL.faulty(4, "town", "person p from 0 to 0 ill ^9999;");
  }

  private static void timesOfAWant() {
    Check.part("WANTS: at a time (0 to 24)");
    for (int time : new int[] {0, 24}) {
      OverNight x = Check.in("thing a; want a at " + time + " worth 7;");
      Check.told(x, time, x.want(0, 1));
      Check.told(x, 7, x.day(1, time));
      Check.told(x, 7, x.day(1, 0));
      if (time == 0) Check.told(x, 0, x.day(1, 1));
    }
    FULL.faulty(4, "town", "thing a; want a at ^25 worth 1;");
    FULL.faulty(4, "town", "thing a; want a at ^9999 worth 1;");
  }

  private static void worthOfAWant() {
    Check.part("WANTS: of some WORTH (1 to 999)");
    for (int worth : new int[] {1, 999}) {
      OverNight x = Check.in("thing a; want a at 3 worth " + worth + ";");
      Check.told(x, worth, x.want(0, 2));
      Check.told(x, worth, x.day(1, 0));
    }
    for (int worth : new int[] {0, 1000, 9999}) FULL.faulty(4, "town", "thing a; want a at 3 worth ^" + worth + ";");
  }

  private static void toldAhead() {
    Check.part("what a PART names must be told ahead (FAULT 3)");
    BARE.reads(2, "town", "thing a; making m gives a hours 1 hands 1; thing b;");
    FULL.faulty(3, "town", "thing a; making m gives ^b hours 1 hands 1; thing b;");
    FULL.faulty(3, "town", MAKING + " of ^c; thing c;");
    FULL.faulty(3, "town", MAKING + " of a ^c; thing c;");
    FULL.faulty(3, "town", MAKING + " with ^c; thing c;");
    FULL.faulty(3, "town", MAKING + " of a with b ^c; thing c;");
    FULL.faulty(3, "town", "want ^a at 1 worth 1; thing a;");
    // no such THING: the NAME of a MAKING, a PERSON, and the MAKING's own
    FULL.faulty(3, "town", "thing a; making m gives ^m hours 1 hands 1;");
    FULL.faulty(3, "town", MAKING + " of ^m;");
    FULL.faulty(3, "town", MAKING + "; want ^m at 1 worth 1;");
    FULL.faulty(3, "town", "person p from 1 to 2; want ^p at 1 worth 1;");
    FULL.faulty(3, "town", "person p from 1 to 2; " + MAKING + " with ^p;");
  }

  private static void ofOrWithAgain() {
    Check.part("a THING again behind of, with, or of both, in one making (FAULT 5)");
    BARE.reads(2, "town", MAKING + " of a b;");
    FULL.faulty(5, "town", MAKING + " of a ^a;");
    FULL.faulty(5, "town", MAKING + " of a b ^a;");
    BARE.reads(2, "town", MAKING + " with b a;");
    FULL.faulty(5, "town", MAKING + " with b ^b;");
    BARE.reads(2, "town", MAKING + " of a with b;");
    FULL.faulty(5, "town", MAKING + " of a with ^a;");
    FULL.faulty(5, "town", MAKING + " of a with b ^a;");
    // in another making, or as what it gives, it is none
    BARE.reads(2, "town", MAKING + " of a; making n gives a hours 1 hands 1 of a;");
    BARE.reads(2, "town", MAKING + " of a; making n gives a hours 1 hands 1 with a;");
    String eight = things(8) + "making m gives ta hours 1 hands 1 of ta tb tc td te tf tg th";
    BARE.reads(8, "town", eight + ";");
    FULL.faulty(5, "town", eight + " with ^th;");
    FULL.faulty(5, "town", eight + " ^ta;");
  }

  private static void perhapsAndAnyNumber() {
    Check.part("[ ] perhaps, { } any number of times, in their order");
    for (String t : new String[] {"thing a;", "thing a wear;", "thing a send;", "thing a wear send;"}) BARE.reads(1, "town", t);
    for (String t : new String[] {"thing a send ^wear;", "thing a wear ^wear;", "thing a send ^send;", "thing ^;", "thing ^wear;", "thing a ^b;", "thing a ^ill;"}) FULL.faulty(2, "town", t);
    for (String t : new String[] {" of a", " with a", " of a b", " with a b", " of a with b", ""}) BARE.reads(2, "town", MAKING + t + ";");
    for (String t : new String[] {" of^", " with^", " with a ^of b", " of a ^of b", " with a ^with b", " ^a"}) FULL.faulty(2, "town", MAKING + t + ";");
    for (String t : new String[] {"making ^; m gives", "making m ^hours 1", "making m gives a ^hands 1", "making m gives a hours ^hands", "making m gives a hours 1 ^;",
        "making m gives a hours 1 hands ^;", "making ^gives a"}) FULL.faulty(2, "town", "thing a; " + t);
    for (String t : new String[] {"", " ill 1"}) BARE.reads(0, "town", "person p from 1 to 2" + t + ";");
    for (String t : new String[] {"person ^;", "person p ^;", "person p ^to 1", "person p from ^;", "person p from 1 ^;", "person p from 1 to ^;", "person p from 1 to 2 ill ^;",
        "person p from 1 to 2 ill 1 ^ill 1;", "person p from 1 to 2 ^1;", "person p from 1 to 2 ^eaten;"}) FULL.faulty(2, "town", t);
    for (String t : new String[] {"", " eaten"}) BARE.reads(1, "town", "thing a; want a at 1 worth 1" + t + ";");
    for (String t : new String[] {"want ^;", "want a ^;", "want a ^worth 1", "want a at ^;", "want a at 1 ^;", "want a at 1 worth ^;", "want a at 1 worth 1 ^1;", "want a at 1 worth 1 eaten ^eaten;"}) {
      FULL.faulty(2, "town", "thing a; " + t);
    }
    for (String t : new String[] {"^a;", "^1;", "^wear;", "^stays", "^at 1 m by p;", "^hold a;"}) FULL.faulty(2, "town", "thing a; " + t);
  }

  private static void townInPlaceOfThatAhead() {
    Check.part("A TOWN that is taken is there in place of that ahead; there is no LAW then, no PLAN");
    OverNight x = Full.untaped();
    Check.well(x, 1, Check.town(x, "thing v;"));
    int[] due = {1, 0, 0, 0, 0, 0};
    for (int i = 0; i < 6; i++) Check.told(x, due[i], x.many(i));
    for (int i = 0; i < 3; i++) Check.told(x, 0, x.thing(0, i));
    Check.told(x, 0, x.night(1, -1, -1, -1, 0));
    Check.no(x, 8, x.lives(1));
    Check.no(x, 8, x.done(0, 0));
    Check.told(x, 0, x.judged(0));
    // the very same TOWN again, too
    x = Full.untaped();
    Check.town(x, Full.TOWN);
    Check.told(x, 0, x.thing(0, 2));
    Check.told(x, 0, x.many(4));
    Check.no(x, 8, x.ill(0, 1));
    // one with a FAULT, or with 5, leaves all
    FULL.faulty(2, "town", Full.TOWN + "thing^");
    FULL.refused(5, y -> y.town(21));
  }

  // ---- the LAW.

  private static void lawThings() {
    Check.part("LAW: NAMES are the TOWN's THINGS (FAULT 3: a NAME that is no THING)");
    SMALL.reads(3, "law", "a stays worn; b stays worn; cccccccc stays worn;");
    SMALL.faulty(3, "law", "^c stays worn;");
    SMALL.faulty(3, "law", "^m stays worn;");
    SMALL.faulty(3, "law", "^p stays worn;");
    SMALL.reads(1, "law", "a stays here b and here a and here cccccccc;");
    SMALL.faulty(3, "law", "a stays here ^x;");
    SMALL.faulty(3, "law", "a stays here ^m;");
    SMALL.faulty(3, "law", "a stays here ^q;");
    // without THINGS there is none but the empty one
    BARE.reads(0, "law", "");
    BARE.faulty(3, "law", "^a stays worn;");
  }

  private static void lawNumbers() {
    Check.part("LAW: a NUMBER that can't be (0 to 6)");
    for (char c : new char[] {'<', '>', '='}) {
      SMALL.reads(1, "law", "a stays day " + c + " 0;");
      SMALL.reads(1, "law", "a stays day " + c + " 6;");
      SMALL.faulty(4, "law", "a stays day " + c + " ^7;");
      SMALL.faulty(4, "law", "a stays day " + c + " ^9999;");
    }
    // what each end holds for: no rest is below 0, none above 6
    long[][] due = {{'<', 0, 0}, {'<', 6, 63}, {'>', 0, 126}, {'>', 6, 0}, {'=', 0, 1}, {'=', 6, 64}, {'<', 1, 1}, {'>', 5, 64}};
    for (long[] d : due) {
      OverNight x = Check.in("thing a;", "a stays day " + (char) d[0] + " " + d[1] + ";");
      for (int day = 0; day < 15; day++) Check.told(x, d[2] >> day % 7 & 1, x.night(1, -1, -1, -1, day));
    }
  }

  private static void lawThingAgain() {
    Check.part("LAW: a THING again ahead of stays (FAULT 5, at it)");
    SMALL.reads(2, "law", "a stays worn; b stays here a and here a;");
    SMALL.faulty(5, "law", "a stays worn; ^a stays worn;");
    SMALL.faulty(5, "law", "a stays worn; b stays worn; ^a");
    SMALL.faulty(5, "law", "b stays worn; a stays worn; ^b;");
  }

  private static void twentyCases() {
    Check.part("LAW: a 21st CASE (FAULT 6, at its WORD)");
    String[] cases = {"worn", "held", "sent", "here a", "day < 3"};
    for (String last : cases) {
      String nineteen = "a stays worn" + " or worn".repeat(9) + ";b stays held" + " and sent".repeat(8);
      SMALL.reads(2, "law", nineteen + " or " + last + ";");
      SMALL.faulty(6, "law", nineteen + " or sent and ^" + last + ";");
      SMALL.faulty(6, "law", nineteen + " or sent;cccccccc stays ^" + last + ";");
      SMALL.faulty(6, "law", nineteen + " or sent;cccccccc stays not (^" + last + ");");
    }
    // each kind counts one; not and brackets none
    String each = "worn or held or sent or here a or day < 3";
    String four = each + " or " + each + " or " + each + " or " + each;
    SMALL.reads(1, "law", "a stays " + four + ";");
    SMALL.faulty(6, "law", "a stays " + four + " or ^worn;");
    SMALL.reads(1, "law", "a stays not not (" + four + ");");
    // another LAW counts anew
    OverNight x = Check.in("thing a;", "a stays " + four + ";");
    Check.well(x, 1, Check.law(x, "a stays " + four + ";"));
  }

  private static void withinSix() {
    Check.part("LAW: a ONE within six of not and brackets (FAULT 7, at its first TOKEN)");
    String[] five = {"not not not not not ", "(((((", "not (not (not ", "(not (not (", "not not (((", "((not not not "};
    for (String in : five) {
      String out = ")".repeat(in.length() - in.replace("(", "").length());
      for (String one : new String[] {"worn", "here a", "day = 3"}) {
        SMALL.reads(1, "law", "a stays " + in + one + out + ";");
        SMALL.reads(1, "law", "a stays held and " + in + one + out + " or sent;");
        SMALL.faulty(7, "law", "a stays " + in + "not ^" + one + out + ";");
        SMALL.faulty(7, "law", "a stays " + in + "(^" + one + ")" + out + ";");
      }
      SMALL.faulty(7, "law", "a stays " + in + "not ^not worn" + out + ";");
      SMALL.faulty(7, "law", "a stays " + in + "not ^(worn)" + out + ";");
      SMALL.faulty(7, "law", "a stays " + in + "(^not worn)" + out + ";");
      SMALL.faulty(7, "law", "a stays " + in + "(^(worn))" + out + ";");
    }
    // brackets that are closed do not count, nor does a not behind its ONE
    SMALL.reads(1, "law", "a stays (((((worn))))) and (((((worn)))));");
    SMALL.reads(1, "law", "a stays not not not not not worn or not not not not not worn;");
    SMALL.reads(1, "law", "a stays ((((not worn and not held))));");
    SMALL.faulty(7, "law", "a stays (((((held and not ^worn)))));");
    SMALL.faulty(7, "law", "a stays (((((held or (^worn))))));");
    // what five levels hold
    OverNight x = Check.in("thing a wear;", "a stays not not not not not worn;");
    Check.told(x, 1, x.night(1, -1, -1, -1, 0));
    Check.told(x, 0, x.night(1, 0, -1, -1, 0));
    Check.law(x, "a stays not (not (not worn));");
    Check.told(x, 1, x.night(1, -1, -1, -1, 0));
    Check.law(x, "a stays (((((worn)))));");
    Check.told(x, 1, x.night(1, 0, -1, -1, 0));
  }

  private static void lawGrammar() {
    Check.part("LAW: what can't stand there (FAULT 2)");
    for (String t : new String[] {"a stays worn;", "a stays worn and held or sent and here a;", "a stays (worn or held) and not sent;"}) SMALL.reads(1, "law", t);
    for (String t : new String[] {"^stays worn;", "a ^worn;", "a stays ^;", "a stays ^stays worn;", "a stays ^and worn;", "a stays worn ^worn;", "a stays worn and ^or held;", "a stays worn or ^;",
        "a stays not ^;", "a stays not ^and;", "a stays (^);", "a stays (worn ^;", "a stays (worn ^held);", "a stays worn ^);", "a stays here ^;", "a stays here ^here;", "a stays day ^3;",
        "a stays day < ^a;", "a stays day < ^< 3;", "a stays day ^;", "a stays day ^( 3;", "a stays ^a;", "a stays ^wear;", "a stays ^hold;", "a stays ^send;", "a stays worn; ^;", "^1 stays worn;"}) {
      SMALL.faulty(2, "law", t);
    }
  }

  // ---- the PLAN.

  private static void planTimes() {
    Check.part("PLAN: at h: a MAKING (0 to 23; FAULT 4)");
    SMALL.reads(1, "plan", "at 0 m by p;");
    SMALL.reads(1, "plan", "at 23 m by p;");
    SMALL.faulty(4, "plan", "at ^24 m by p;");
    SMALL.faulty(4, "plan", "at ^9999 m by p;");
    SMALL.faulty(2, "plan", "at ^m by p;");
  }

  private static void planNames() {
    Check.part("PLAN: a NAME that is no MAKING, PERSON, THING (FAULT 3)");
    SMALL.reads(1, "plan", "at 1 mmmmmmmm by q p;");
    for (String t : new String[] {"at 1 ^a by p;", "at 1 ^p by p;", "at 1 ^x by p;", "at 1 m by ^a;", "at 1 m by ^m;", "at 1 m by p ^x;", "wear ^m;", "hold ^p;", "send ^x;", "wear ^x;", "hold ^m;", "send ^q;"}) {
      SMALL.faulty(3, "plan", t);
    }
    for (String t : new String[] {"wear a;", "wear b;", "hold cccccccc;", "send b;"}) SMALL.reads(1, "plan", t);
    BARE.reads(0, "plan", "");
    BARE.faulty(3, "plan", "wear ^a;");
  }

  private static void planAgain() {
    Check.part("PLAN: a PERSON again in one JOB; wear, hold, send told already (FAULT 5)");
    SMALL.reads(1, "plan", "at 1 m by p q;");
    SMALL.faulty(5, "plan", "at 1 m by p ^p;");
    SMALL.faulty(5, "plan", "at 1 m by p q ^p;");
    SMALL.faulty(5, "plan", "at 1 m by q p ^p;");
    SMALL.reads(2, "plan", "at 1 m by p; at 1 m by p;");
    SMALL.reads(3, "plan", "wear a; hold a; send a;");
    for (String kind : new String[] {"wear", "hold", "send"}) {
      SMALL.faulty(5, "plan", kind + " a; ^" + kind + " a;");
      SMALL.faulty(5, "plan", "wear a; hold a; send a; at 1 m by p; ^" + kind + " b;");
      SMALL.faulty(5, "plan", kind + " a; ^" + kind);
    }
    // another PLAN tells anew
    OverNight x = Check.in("thing a;", "", "wear a;");
    Check.well(x, 1, Check.plan(x, "wear a;"));
  }

  private static void twentyFourJobs() {
    Check.part("PLAN: a 25th JOB (FAULT 6, at its first WORD)");
    String jobs = "at 1m by p;".repeat(23);
    SMALL.reads(24, "plan", jobs + "at 1m by p;");
    SMALL.reads(24, "plan", jobs + "wear a;");
    for (String more : new String[] {"at 1m by p;", "wear a;", "hold a;", "send a;", "at", "at 99", "hold x;"}) {
      SMALL.faulty(6, "plan", jobs + "at 1m by p;^" + more);
      SMALL.faulty(6, "plan", jobs + "at 1m by p; \n^" + more);
    }
    OverNight x = Check.in("thing a; making m gives a hours 1 hands 1; person p from 0 to 0;", "", jobs + "wear a;");
    Check.told(x, 24, x.many(4));
    Check.well(x, 24, Check.plan(x, jobs + "at 1m by p;"));
  }

  private static void planGrammar() {
    Check.part("PLAN: what can't stand there (FAULT 2)");
    for (String t : new String[] {"^m by p;", "^;", "at ^m by p;", "at 1 ^;", "at 1 ^by p;", "at 1 m ^p;", "at 1 m ^;", "at 1 m by ^;", "at 1 m by p ^by q;", "at 1 m by p ^1;", "wear ^;", "wear a ^b;",
        "hold ^1;", "hold a; ^;", "send ^wear a;", "^stays", "^worn a;", "^held a;", "at 1 ^2 m by p;", "at 1 ^at 2 m by p;", "^12 m by p;"}) {
      SMALL.faulty(2, "plan", t);
    }
  }

  // ---- FAULT.

  private static void faultOfTheLatest() {
    Check.part("fault: of the latest of these with STATUS 0 or 10; NONE for others, and ahead of any");
    OverNight x = new OverNight();
    for (int what = -1; what < 3; what++) Check.due(-1, x.fault(what));
    Check.no(x, 5, x.town(1));
    Check.no(x, 5, x.law(-1));
    Check.no(x, 5, x.plan(301));
    for (int what = -1; what < 3; what++) Check.due(-1, x.fault(what));
    Check.no(x, 10, Check.plan(x, "at 1 m"));
    int[] due = {-1, 3, 5, -1};
    for (int what = -1; what < 3; what++) Check.due(due[what + 1], x.fault(what));
    // 5 is none of these; fault() has no STATUS
    Check.no(x, 5, x.law(1));
    for (int what = -1; what < 3; what++) Check.due(due[what + 1], x.fault(what));
    Check.due(5, x.status());
    Check.due(-1, x.fault(Integer.MAX_VALUE));
    Check.due(-1, x.fault(Integer.MIN_VALUE));
    Check.due(5, x.status());
    Check.told(x, 0, x.law(0));
    int[] well = {-1, 0, -1, -1};
    for (int what = -1; what < 3; what++) Check.due(well[what + 1], x.fault(what));
  }
}
