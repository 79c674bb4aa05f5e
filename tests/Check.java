/** Counts the answers that are not as due, and tells each. */
final class Check {
  private static int wrong = 0;
  private static int asked = 0;
  private static String part = "";

  private Check() { }

  static void part(String name) { part = name; }

  static void due(long want, long got) {
    asked++;
    if (want != got) tell("answered " + got + ", due is " + want);
  }

  static void due(boolean want, boolean got) { due(want ? 1 : 0, got ? 1 : 0); }

  /** An answer with STATUS 0. */
  static void told(OverNight x, long want, long got) {
    due(want, got);
    due(0, x.status());
  }

  /** A call that can't be: NONE, and its STATUS. */
  static void no(OverNight x, int status, long got) {
    due(-1, got);
    due(status, x.status());
  }

  static void no(OverNight x, int status, boolean got) {
    due(false, got);
    due(status, x.status());
  }

  static void tell(String what) {
    wrong++;
    StackTraceElement[] stack = new Throwable().getStackTrace();
    int line = 0;
    for (StackTraceElement e : stack) if (!e.getClassName().equals("Check") && !e.getClassName().equals("Edge")) { line = e.getLineNumber(); break; }
    System.out.println(part + ", line " + line + ": " + what);
  }

  static void end(String name) {
    System.out.println(name + ": " + asked + " answers, " + wrong + " not as due");
    if (wrong > 0) System.exit(1);
  }

  /** Feeds a text; the blanks behind it are no part of it. */
  static int feed(OverNight x, String text) {
    for (int[] f : Texts.fives(text)) x.feed(f[0], f[1], f[2], f[3], f[4]);
    return text.length();
  }

  static int town(OverNight x, String text) { return x.town(feed(x, text)); }
  static int law(OverNight x, String text) { return x.law(feed(x, text)); }
  static int plan(OverNight x, String text) { return x.plan(feed(x, text)); }

  static OverNight in(String town) {
    OverNight x = new OverNight();
    if (town(x, town) < 0) tell("the town of the test is a FAULT: " + x.fault(0) + " at " + x.fault(1));
    return x;
  }

  static OverNight in(String town, String law) {
    OverNight x = in(town);
    if (law(x, law) < 0) tell("the law of the test is a FAULT: " + x.fault(0) + " at " + x.fault(1));
    return x;
  }

  static OverNight in(String town, String law, String plan) {
    OverNight x = in(town, law);
    if (plan(x, plan) < 0) tell("the plan of the test is a FAULT: " + x.fault(0) + " at " + x.fault(1));
    return x;
  }

  /** A text that is a FAULT: STATUS 10, its kind, its place. */
  static void fault(OverNight x, int kind, int place, int got) {
    no(x, 10, got);
    due(kind, x.fault(0));
    due(place, x.fault(1));
  }

  static void well(OverNight x, int want, int got) {
    told(x, want, got);
    due(0, x.fault(0));
    due(-1, x.fault(1));
  }
}
