import java.util.ArrayList;
import java.util.Arrays;
import java.util.Collections;
import java.util.HashMap;
import java.util.HashSet;
import java.util.LinkedHashMap;
import java.util.List;
import java.util.Map;
import java.util.Set;
import java.util.TreeSet;
import java.util.regex.Matcher;
import java.util.regex.Pattern;

/**
 * A second OverNight, slow and plain, with the Java library: the document's words hour by hour, by recursion and
 * exceptions. ModelTest holds the program against it.
 */
public final class Model {
  public static final int NONE = -1;
  private static final Set<String> RESERVED = new HashSet<>(Arrays.asList(("thing, wear, send, making, gives, hours, hands, of, "
      + "with, person, from, to, ill, want, at, worth, eaten, stays, worn, held, sent, here, day, or, and, not, by, hold").split(", ")));

  /** A call that ends with another STATUS than 0. */
  private static final class Stop extends RuntimeException {
    final int status;
    Stop(int status) { this.status = status; }
  }

  private static final class Fault extends RuntimeException {
    final int kind;
    final int place;
    Fault(int kind, int place) { this.kind = kind; this.place = place; }
  }

  private record Making(String name, int gives, int hours, int hands, Set<Integer> of, Set<Integer> with) {
    Set<Integer> needs() { Set<Integer> all = new TreeSet<>(of); all.addAll(with); return all; }
  }
  private record Person(String name, int from, int to, int ill) {
    boolean awake(int hour) {
      if (from == to) return true;
      // goes round hour by hour, from the first on, over the stroke if the end is ahead of it
      int last = to > from ? to : to + 24;
      for (int h = from; h < last; h++) if (h % 24 == hour && !(h == 24 && from == 24 && to == 0)) return true;
      return false;
    }
  }
  private record Want(int thing, int time, int worth, boolean eaten) { }
  private record Job(String kind, int at, int what, List<Integer> who) { }
  private record Night(int worn, int held, int sent, int stays) { }
  private interface Rule { boolean holds(int thing, int set, int worn, int held, int sent, int day); }

  private static final class World {
    List<String> things = new ArrayList<>();
    Set<Integer> wear = new HashSet<>();
    Set<Integer> send = new HashSet<>();
    List<Making> makings = new ArrayList<>();
    List<Person> people = new ArrayList<>();
    List<Want> wants = new ArrayList<>();
    Map<Integer, Rule> law = new HashMap<>();
    List<Job> plan = null;
    World copy() {
      World w = new World();
      w.things = new ArrayList<>(things);
      w.wear = new HashSet<>(wear);
      w.send = new HashSet<>(send);
      w.makings = new ArrayList<>(makings);
      w.people = new ArrayList<>(people);
      w.wants = new ArrayList<>(wants);
      w.law = new HashMap<>(law);
      w.plan = plan == null ? null : new ArrayList<>(plan);
      return w;
    }
    boolean taken(String name) {
      return things.contains(name) || making(name) >= 0 || person(name) >= 0;
    }
    int making(String name) { for (int i = 0; i < makings.size(); i++) if (makings.get(i).name.equals(name)) return i; return -1; }
    int person(String name) { for (int i = 0; i < people.size(); i++) if (people.get(i).name.equals(name)) return i; return -1; }
    boolean isAwake() { for (Person p : people) if (p.awake(23) && p.awake(0)) return true; return false; }
  }

  private int status = 0;
  private long top = 0;
  private long bottom = 1;
  private final long[][] trays = new long[4][];
  private final int[] sorts = new int[4];
  private final List<Byte> tape = new ArrayList<>();
  private World world = new World();
  private final List<World> marks = new ArrayList<>();
  private Integer faultKind = null;
  private int faultPlace = NONE;
  private List<int[]> steps = new ArrayList<>();
  private Night firstNight = null;
  private int[] there = null;
  private int[] lived = null;

  private int need(boolean so, int otherwise) { if (!so) throw new Stop(otherwise); return 0; }
  private interface Call { long run(); }
  private long call(Call c) {
    try { long v = c.run(); status = 0; return v; } catch (Stop s) { status = s.status; return NONE; }
  }
  private int icall(Call c) { return (int) call(c); }
  private boolean bcall(Call c) { call(c); return status == 0; }

  public int status() { return status; }
  public long top() { return top; }
  public long bottom() { return bottom; }

  private boolean isTray(int t) { return t >= 0 && t <= 3; }
  public boolean tray(int tray, int sort, int many) {
    return bcall(() -> {
      need(isTray(tray) && sort >= 0 && sort <= 3, 1); need(many <= 60, 5); need(many >= 0, 6);
      trays[tray] = new long[many]; sorts[tray] = sort; return 0;
    });
  }
  public boolean write(int tray, int place, long v) {
    return bcall(() -> {
      need(isTray(tray), 1); need(trays[tray] != null, 3); need(place >= 0 && place < trays[tray].length, 4);
      int bits = 8 << sorts[tray];
      trays[tray][place] = bits == 64 ? v : v << 64 - bits >> 64 - bits; return 0;
    });
  }
  public long read(int tray, int place) {
    return call(() -> {
      need(isTray(tray), 1); need(trays[tray] != null, 3); need(place >= 0 && place < trays[tray].length, 4);
      return trays[tray][place];
    });
  }
  public boolean pour(int tray, int i, int to, int j, int many) {
    return bcall(() -> {
      need(isTray(tray) && isTray(to), 1); need(trays[tray] != null && trays[to] != null, 3);
      need(sorts[tray] == sorts[to], 11); need(many >= 0, 6);
      need(i >= 0 && j >= 0 && (long) i + many <= trays[tray].length && (long) j + many <= trays[to].length, 4);
      long[] were = trays[tray].clone();
      for (int k = 0; k < many; k++) trays[to][j + k] = were[i + k];
      return 0;
    });
  }

  public int feed(int a, int b, int c, int d, int e) {
    if (tape.size() + 20 > 800) return NONE;
    for (int v : new int[] {a, b, c, d, e}) for (int k = 3; k >= 0; k--) tape.add((byte) (v >> 8 * k));
    return tape.size();
  }

  private String text(int n, int limit) {
    need(n >= 0 && n <= tape.size() && n <= limit, 5);
    StringBuilder s = new StringBuilder();
    for (int i = 0; i < n; i++) s.append((char) (tape.get(i) & 255));
    tape.clear();
    return s.toString();
  }

  private record Token(String kind, String text, int place) { }

  private static final class Reader {
    final List<Token> tokens = new ArrayList<>();
    int at = 0;
    Reader(String s) {
      Matcher m = Pattern.compile("[ \\n]+|([a-z]+)|([0-9]+)|([;<>=()])|((?s:.))").matcher(s);
      while (m.find()) {
        if (m.group(1) != null) {
          String w = m.group(1);
          tokens.add(new Token(RESERVED.contains(w) ? "reserved" : w.length() > 8 ? "long" : "name", w, m.start()));
        } else if (m.group(2) != null) {
          tokens.add(new Token(m.group(2).length() > 4 ? "bad" : "number", m.group(2), m.start()));
        } else if (m.group(3) != null) {
          tokens.add(new Token("sign", m.group(3), m.start()));
        } else if (m.group(4) != null) {
          tokens.add(new Token("bad", m.group(4), m.start()));
        }
      }
      tokens.add(new Token("end", "", s.length()));
    }
    Token peek() { return tokens.get(at); }
    boolean is(String text) { return !isEnd() && !peek().kind.equals("bad") && peek().text.equals(text); }
    boolean isEnd() { return peek().kind.equals("end"); }
    boolean isName() { return peek().kind.equals("name"); }
    RuntimeException no(int kind) { return new Fault(peek().kind.equals("bad") ? 1 : kind, peek().place); }
    void want(String text) { if (!is(text)) throw no(2); at++; }
    boolean may(String text) { if (!is(text)) return false; at++; return true; }
    int number(int low, int high) {
      if (!peek().kind.equals("number")) throw no(2);
      int v = Integer.parseInt(peek().text);
      if (v < low || v > high) throw no(4);
      at++;
      return v;
    }
    String name() { if (!isName()) throw no(2); return peek().text; }
    int known(int index) { if (index < 0) throw no(3); at++; return index; }
  }

  private int reading(int n, int limit, java.util.function.ToIntFunction<Reader> f) {
    return icall(() -> {
      String s = text(n, limit);
      try {
        int v = f.applyAsInt(new Reader(s));
        faultKind = 0; faultPlace = NONE;
        return v;
      } catch (Fault t) {
        faultKind = t.kind; faultPlace = t.place;
        throw new Stop(10);
      }
    });
  }

  public int town(int n) {
    return reading(n, 800, r -> {
      World w = new World();
      while (!r.isEnd()) part(r, w);
      world = w;
      return w.things.size();
    });
  }

  private String newName(Reader r, World w) {
    String s = r.name();
    if (w.taken(s)) throw r.no(3);
    r.at++;
    return s;
  }

  private void part(Reader r, World w) {
    if (r.is("thing")) {
      if (w.things.size() == 8) throw r.no(6);
      r.at++;
      int k = w.things.size();
      w.things.add(newName(r, w));
      if (r.may("wear")) w.wear.add(k);
      if (r.may("send")) w.send.add(k);
    } else if (r.is("making")) {
      if (w.makings.size() == 12) throw r.no(6);
      r.at++;
      String name = newName(r, w);
      r.want("gives");
      int gives = r.known(w.things.indexOf(r.name()));
      r.want("hours");
      int hours = r.number(1, 24);
      r.want("hands");
      int hands = r.number(1, 3);
      Set<Integer> of = new TreeSet<>();
      Set<Integer> with = new TreeSet<>();
      if (r.may("of")) do needed(r, w, of, of, with); while (r.isName());
      if (r.may("with")) do needed(r, w, with, of, with); while (r.isName());
      w.makings.add(new Making(name, gives, hours, hands, of, with));
    } else if (r.is("person")) {
      if (w.people.size() == 6) throw r.no(6);
      r.at++;
      String name = newName(r, w);
      r.want("from");
      int from = r.number(0, 24);
      r.want("to");
      int to = r.number(0, 24);
      w.people.add(new Person(name, from, to, r.may("ill") ? r.number(0, 16) : 0));
    } else if (r.is("want")) {
      if (w.wants.size() == 8) throw r.no(6);
      r.at++;
      int thing = r.known(w.things.indexOf(r.name()));
      r.want("at");
      int time = r.number(0, 24);
      r.want("worth");
      int worth = r.number(1, 999);
      w.wants.add(new Want(thing, time, worth, r.may("eaten")));
    } else {
      throw r.no(2);
    }
    r.want(";");
  }

  private void needed(Reader r, World w, Set<Integer> into, Set<Integer> of, Set<Integer> with) {
    int k = w.things.indexOf(r.name());
    if (k >= 0 && (of.contains(k) || with.contains(k))) throw r.no(5);
    into.add(r.known(k));
  }

  private int cases;
  public int law(int n) {
    return reading(n, 300, r -> {
      Map<Integer, Rule> law = new LinkedHashMap<>();
      cases = 0;
      while (!r.isEnd()) {
        int k = world.things.indexOf(r.name());
        if (law.containsKey(k)) throw r.no(5);
        r.known(k);
        r.want("stays");
        law.put(k, either(r, 0));
        r.want(";");
      }
      world.law = law;
      return law.size();
    });
  }

  private Rule either(Reader r, int depth) {
    Rule left = both(r, depth);
    while (r.may("or")) {
      Rule a = left;
      Rule b = both(r, depth);
      left = (t, s, w, h, x, d) -> a.holds(t, s, w, h, x, d) || b.holds(t, s, w, h, x, d);
    }
    return left;
  }
  private Rule both(Reader r, int depth) {
    Rule left = one(r, depth);
    while (r.may("and")) {
      Rule a = left;
      Rule b = one(r, depth);
      left = (t, s, w, h, x, d) -> a.holds(t, s, w, h, x, d) && b.holds(t, s, w, h, x, d);
    }
    return left;
  }
  private Rule one(Reader r, int depth) {
    boolean isCase = r.is("worn") || r.is("held") || r.is("sent") || r.is("here") || r.is("day");
    if (!isCase && !r.is("not") && !r.is("(")) throw r.no(2);
    if (isCase && cases == 20) throw r.no(6);
    if (depth >= 6) throw r.no(7);
    if (r.may("not")) {
      Rule a = one(r, depth + 1);
      return (t, s, w, h, x, d) -> !a.holds(t, s, w, h, x, d);
    }
    if (r.may("(")) {
      Rule a = either(r, depth + 1);
      r.want(")");
      return a;
    }
    cases++;
    if (r.may("worn")) return (t, s, w, h, x, d) -> w == t;
    if (r.may("held")) return (t, s, w, h, x, d) -> h == t;
    if (r.may("sent")) return (t, s, w, h, x, d) -> x == t;
    if (r.may("here")) {
      int k = r.known(world.things.indexOf(r.name()));
      return (t, s, w, h, x, d) -> has(s, k);
    }
    r.want("day");
    if (!r.is("<") && !r.is(">") && !r.is("=")) throw r.no(2);
    String how = r.peek().text;
    r.at++;
    int number = r.number(0, 6);
    return (t, s, w, h, x, d) -> how.equals("<") ? d % 7 < number : how.equals(">") ? d % 7 > number : d % 7 == number;
  }

  public int plan(int n) {
    return reading(n, 300, r -> {
      List<Job> plan = new ArrayList<>();
      while (!r.isEnd()) job(r, plan);
      world.plan = plan;
      return plan.size();
    });
  }

  private void job(Reader r, List<Job> plan) {
    String kind = r.peek().text;
    boolean keeps = r.is("wear") || r.is("hold") || r.is("send");
    if (!keeps && !r.is("at")) throw r.no(2);
    if (keeps) for (Job j : plan) if (j.kind.equals(kind)) throw r.no(5);
    if (plan.size() == 24) throw r.no(6);
    r.at++;
    if (keeps) {
      plan.add(new Job(kind, 99, r.known(world.things.indexOf(r.name())), new ArrayList<>()));
    } else {
      int at = r.number(0, 23);
      int making = r.known(world.making(r.name()));
      r.want("by");
      List<Integer> who = new ArrayList<>();
      do {
        int p = world.person(r.name());
        if (p >= 0 && who.contains(p)) throw r.no(5);
        who.add(r.known(p));
      } while (r.isName());
      plan.add(new Job(kind, at, making, who));
    }
    r.want(";");
  }

  public int fault(int what) {
    if (faultKind == null) return NONE;
    return what == 0 ? faultKind : what == 1 && faultKind != 0 ? faultPlace : NONE;
  }

  public int many(int what) {
    return icall(() -> { need(what >= 0 && what <= 5, 5); return count(what); });
  }
  /** As many(), but no call: it leaves STATUS alone. */
  int count(int what) {
    return List.of(world.things.size(), world.makings.size(), world.people.size(), world.wants.size(),
        world.plan == null ? 0 : world.plan.size(), world.isAwake() ? 1 : 0).get(what);
  }
  private boolean isThing(int k) { return k >= 0 && k < world.things.size(); }
  private boolean isSet(int s) { return s >= 0 && s < 1 << world.things.size(); }
  private static boolean has(int set, int k) { return (set & 1 << k) != 0; }
  private static int set(Set<Integer> s) { int v = 0; for (int k : s) v |= 1 << k; return v; }
  public int thing(int thing, int what) {
    return icall(() -> {
      need(isThing(thing), 2); need(what >= 0 && what <= 2, 5);
      boolean so = what == 0 ? world.wear.contains(thing) : what == 1 ? world.send.contains(thing) : world.law.containsKey(thing);
      return so ? 1 : 0;
    });
  }
  public int making(int making, int what) {
    return icall(() -> {
      need(making >= 0 && making < world.makings.size(), 2); need(what >= 0 && what <= 4, 5);
      Making m = world.makings.get(making);
      return List.of(m.gives, m.hours, m.hands, set(m.of), set(m.with)).get(what);
    });
  }
  public int awake(int person, int hour) {
    return icall(() -> {
      need(person >= 0 && person < world.people.size(), 2); need(hour >= 0 && hour <= 23, 5);
      return world.people.get(person).awake(hour) ? 1 : 0;
    });
  }
  public int want(int want, int what) {
    return icall(() -> {
      need(want >= 0 && want < world.wants.size(), 2); need(what >= 0 && what <= 3, 5);
      Want w = world.wants.get(want);
      return List.of(w.thing, w.time, w.worth, w.eaten ? 1 : 0).get(what);
    });
  }

  private int stays(int set, int worn, int held, int sent, int day) {
    int stays = 0;
    for (Map.Entry<Integer, Rule> e : world.law.entrySet()) {
      int k = e.getKey();
      if (has(set, k) && e.getValue().holds(k, set, worn, held, sent, day)) stays |= 1 << k;
    }
    return stays;
  }
  private boolean mayNight(int set, int worn, int held, int sent) {
    return (worn == NONE || has(set, worn) && world.wear.contains(worn))
        && (held == NONE || has(set, held) && world.isAwake())
        && (sent == NONE || has(set, sent) && world.send.contains(sent));
  }
  public int night(int set, int worn, int held, int sent, int day) {
    return icall(() -> {
      need(isSet(set), 2);
      for (int k : new int[] {worn, held, sent}) need(k == NONE || isThing(k), 2);
      need(day >= 0 && day <= 999, 5);
      need(mayNight(set, worn, held, sent), 9);
      return stays(set, worn, held, sent, day);
    });
  }

  private static final int NEVER = 100000;
  /** Without a THING twice on the way: one that needed itself could never be the soonest way to it. */
  private int soon(int thing, int set, Set<Integer> above) {
    if (has(set, thing)) return 0;
    if (above.contains(thing)) return NEVER;
    Set<Integer> on = new HashSet<>(above);
    on.add(thing);
    int least = NEVER;
    for (Making m : world.makings) {
      if (m.gives != thing) continue;
      int last = 0;
      for (int k : m.needs()) last = Math.max(last, soon(k, set, on));
      if (last < NEVER) least = Math.min(least, last + m.hours);
    }
    return least;
  }
  private int soon(int thing, int set) { return soon(thing, set, new HashSet<>()); }
  public int soonest(int thing, int set) {
    return icall(() -> {
      need(isThing(thing) && isSet(set), 2);
      int t = soon(thing, set);
      need(t <= 24, 9);
      return t;
    });
  }
  private int making(int thing, int set, boolean any) {
    int t = soon(thing, set);
    if (t == 0 || t == NEVER) return NONE;
    for (int i = 0; i < world.makings.size(); i++) {
      Making m = world.makings.get(i);
      int last = 0;
      for (int k : m.needs()) last = Math.max(last, soon(k, set));
      if (m.gives == thing && last + m.hours == t) return i;
    }
    throw new IllegalStateException();
  }
  public int bars(int thing, int set, int what) {
    return icall(() -> {
      need(isThing(thing) && isSet(set), 2);
      need(what == 0 || what == 1, 5);
      int m = making(thing, set, true);
      need(m != NONE, 8);
      if (what == 0) return m;
      int last = NONE;
      for (int k : world.makings.get(m).needs()) if (last == NONE || soon(k, set) > soon(last, set)) last = k;
      need(last != NONE, 8);
      return last;
    });
  }
  public int labour(int wanted, int set) {
    return icall(() -> {
      need(isSet(wanted) && isSet(set), 2);
      Map<Integer, Integer> hours = new HashMap<>();
      hours.put(set, 0);
      for (boolean changed = true; changed; ) {
        changed = false;
        for (int s : new ArrayList<>(hours.keySet())) {
          for (Making m : world.makings) {
            if (m.hands != 1 || (set(m.needs()) & ~s) != 0) continue;
            int after = s & ~set(m.of) | 1 << m.gives;
            int h = hours.get(s) + m.hours;
            if (hours.getOrDefault(after, Integer.MAX_VALUE) > h) { hours.put(after, h); changed = true; }
          }
        }
      }
      int least = NONE;
      for (int s : hours.keySet()) if ((s & wanted) == wanted && (least == NONE || hours.get(s) < least)) least = hours.get(s);
      need(least != NONE, 8);
      return least;
    });
  }
  public int hands(int set) {
    return icall(() -> {
      need(isSet(set), 2);
      Set<Integer> all = new TreeSet<>();
      for (int k = 0; k < world.things.size(); k++) if (has(set, k)) { need(soon(k, 0) <= 24, 9); collect(k, all); }
      int sum = 0;
      int most = 0;
      for (int k : all) {
        Making m = world.makings.get(making(k, 0, true));
        sum += m.hours * m.hands;
        most = Math.max(most, m.hands);
      }
      return Math.max(most, (int) Math.ceil(sum / 24.0));
    });
  }
  private void collect(int k, Set<Integer> all) {
    if (!all.add(k)) return;
    for (int need : world.makings.get(making(k, 0, true)).needs()) collect(need, all);
  }

  // ALONE: the state goes on hour by hour, with what is being made (NONE: nothing) and when it ends.
  private final Map<List<Integer>, Integer> memo = new HashMap<>();
  private int always = 0;

  private int best(int left, int day, int time, int set, int m, int end) {
    List<Integer> key = List.of(left, day, time, set, m, end);
    Integer known = memo.get(key);
    if (known != null) return known;
    int there = set;
    int busy = m;
    if (busy != NONE && time == end) { there |= 1 << world.makings.get(busy).gives; busy = NONE; }
    int worth = 0;
    for (Want w : world.wants) {
      if (w.time == time && has(there, w.thing)) {
        worth += w.worth;
        if (w.eaten) there &= ~(1 << w.thing);
      }
    }
    int most;
    if (time == 24) {
      most = 0;
      if (left > 1) for (Night n : nights(there, day)) most = Math.max(most, best(left - 1, day + 1, 0, n.stays, NONE, 0));
    } else if (busy != NONE) {
      most = best(left, day, time + 1, there, busy, end);
    } else {
      most = best(left, day, time + 1, there, NONE, 0);
      for (int i = 0; i < world.makings.size(); i++) most = Math.max(most, begun(left, day, time, there, i));
    }
    memo.put(key, worth + most);
    return worth + most;
  }
  private int begun(int left, int day, int time, int there, int i) {
    Making m = world.makings.get(i);
    if (m.hands != 1 || time + m.hours > 24 || (set(m.needs()) & ~there) != 0) return NONE;
    return best(left, day, time + 1, there & ~set(m.of), i, time + m.hours);
  }
  private List<Night> nights(int set, int day) {
    List<Night> all = new ArrayList<>();
    int n = world.things.size();
    for (int w = NONE; w < n; w++) for (int h = NONE; h < n; h++) for (int s = NONE; s < n; s++) {
      if (mayNight(set, w, h, s)) all.add(new Night(w, h, s, stays(set, w, h, s, day) | set & always));
    }
    return all;
  }
  private int fresh(int left, int day, int time, int set) { memo.clear(); return best(left, day, time, set, NONE, 0); }

  public int day(int set, int time) {
    return icall(() -> {
      need(isSet(set), 2); need(time >= 0 && time <= 24, 5);
      int v = fresh(1, 0, time, set);
      walk(1, 0, time, set);
      return v;
    });
  }
  public int days(int set, int n, int day) {
    return icall(() -> {
      need(isSet(set), 2); need(n >= 1 && n <= 9 && day >= 0 && day <= 999, 5);
      int v = fresh(n, day, 0, set);
      int there = walk(n, day, 0, set);
      firstNight = null;
      if (n > 1) {
        for (Night x : nights(there, day)) {
          if (firstNight == null || best(n - 1, day + 1, 0, x.stays, NONE, 0) > best(n - 1, day + 1, 0, firstNight.stays, NONE, 0)) firstNight = x;
        }
      }
      return v;
    });
  }
  private int walk(int left, int day, int from, int set) {
    steps = new ArrayList<>();
    int there = set;
    int busy = NONE;
    int end = 0;
    for (int time = from; time <= 24; time++) {
      if (busy != NONE && time == end) { there |= 1 << world.makings.get(busy).gives; busy = NONE; }
      for (Want w : world.wants) if (w.time == time && w.eaten) there &= ~(1 << w.thing);
      if (time == 24 || busy != NONE) continue;
      int most = best(left, day, time + 1, there, NONE, 0);
      for (int i = 0; i < world.makings.size(); i++) most = Math.max(most, begun(left, day, time, there, i));
      int first = NONE;
      for (int i = world.makings.size() - 1; i >= 0; i--) if (begun(left, day, time, there, i) == most) first = i;
      steps.add(new int[] {first, time});
      if (first != NONE) {
        busy = first;
        end = time + world.makings.get(first).hours;
        there &= ~set(world.makings.get(first).of);
      }
    }
    return there;
  }
  public int step(int k) { return icall(() -> { need(k >= 0 && k < steps.size(), 8); return steps.get(k)[0]; }); }
  public int stepTime(int k) { return icall(() -> { need(k >= 0 && k < steps.size(), 8); return steps.get(k)[1]; }); }
  public int firstNight(int what) {
    return icall(() -> {
      need(what >= 0 && what <= 3, 5); need(firstNight != null, 8);
      return List.of(firstNight.worn, firstNight.held, firstNight.sent, firstNight.stays).get(what);
    });
  }
  public int price(int thing, int time, int set) {
    return icall(() -> {
      need(isThing(thing) && isSet(set), 2); need(time >= 0 && time <= 24, 5);
      return fresh(1, 0, time, set | 1 << thing) - fresh(1, 0, time, set & ~(1 << thing));
    });
  }
  private int keptWorth(int thing, int n) { return fresh(n, 0, 0, 1 << thing) - fresh(n, 0, 0, 0); }
  public int kept(int thing, int n) {
    return icall(() -> { need(isThing(thing), 2); need(n >= 1 && n <= 9, 5); return keptWorth(thing, n); });
  }
  private int moreWorth(int thing, int n) {
    always = 1 << thing;
    int with = fresh(n, 0, 0, 0);
    always = 0;
    return with - fresh(n, 0, 0, 0);
  }
  public int more(int thing, int n) {
    return icall(() -> { need(isThing(thing), 2); need(n >= 1 && n <= 9, 5); return moreWorth(thing, n); });
  }
  private int first(java.util.function.IntUnaryOperator worth) {
    need(!world.things.isEmpty(), 8);
    List<Integer> all = new ArrayList<>();
    for (int k = 0; k < world.things.size(); k++) all.add(worth.applyAsInt(k));
    return all.indexOf(Collections.max(all));
  }
  public int bestKept(int n) { return icall(() -> { need(n >= 1 && n <= 9, 5); return first(k -> keptWorth(k, n)); }); }
  public int bestMore(int n) { return icall(() -> { need(n >= 1 && n <= 9, 5); return first(k -> moreWorth(k, n)); }); }

  public int shift(int hours) {
    return icall(() -> {
      need(hours >= 0 && hours < 1 << 24, 5);
      List<int[]> sets = new ArrayList<>();
      for (int s = 0; s < 1 << world.people.size(); s++) {
        boolean all = true;
        for (int h = 0; h < 24; h++) {
          boolean some = !has(hours, h);
          for (int p = 0; p < world.people.size(); p++) some |= has(s, p) && world.people.get(p).awake(h);
          all &= some;
        }
        if (all) sets.add(new int[] {Integer.bitCount(s), s});
      }
      need(!sets.isEmpty(), 9);
      sets.sort((a, b) -> a[0] != b[0] ? a[0] - b[0] : a[1] - b[1]);
      return sets.get(0)[1];
    });
  }
  private void fraction(long a, long b) {
    long d = java.math.BigInteger.valueOf(a).gcd(java.math.BigInteger.valueOf(b)).longValue();
    top = a / d;
    bottom = b / d;
  }
  public boolean west(int ahead, int up, int low) {
    return bcall(() -> {
      need(ahead >= 1 && ahead <= 24 && up >= 0 && up <= 99 && low >= 1 && low <= 99 && up < low, 5);
      fraction(ahead * low, low - up);
      return 0;
    });
  }
  public boolean speed(int ahead, int n) {
    return bcall(() -> {
      need(ahead >= 1 && ahead <= 24 && n >= 1 && n <= 9999, 5);
      fraction(n > ahead ? n - ahead : 0, n);
      return 0;
    });
  }
  public int way(int tray, int many, int ahead) {
    return icall(() -> {
      need(isTray(tray), 1); need(trays[tray] != null, 3);
      need(many >= 1 && many <= 30 && ahead >= 1 && ahead <= 24, 5); need(trays[tray].length >= 2 * many, 4);
      for (int i = 0; i < 2 * many; i++) need(trays[tray][i] >= 0 && trays[tray][i] <= 999, 5);
      long stroke = 0;
      long ship = ahead;
      for (int k = 0; k < many; k++) {
        stroke += trays[tray][2 * k];
        ship += trays[tray][2 * k + 1];
        if (stroke >= ship) return k;
      }
      return NONE;
    });
  }

  // PLANS.
  private static final class Done {
    int worth;
    int had;
    int[] there = new int[26];
    Set<Integer> left = new TreeSet<>();
    int missingJob = NONE;
    int missingThing = NONE;
  }
  private int why(int j) {
    Job job = world.plan.get(j);
    if (job.kind.equals("wear")) return world.wear.contains(job.what) ? 0 : 5;
    if (job.kind.equals("send")) return world.send.contains(job.what) ? 0 : 5;
    if (job.kind.equals("hold")) return world.isAwake() ? 0 : 5;
    Making m = world.makings.get(job.what);
    if (job.who.size() != m.hands) return 1;
    for (int p : job.who) for (int h : hours(job)) if (!world.people.get(p).awake(h)) return 2;
    for (int i = 0; i < j; i++) {
      if (!Collections.disjoint(world.plan.get(i).who, job.who) && !Collections.disjoint(hours(world.plan.get(i)), hours(job))) return 3;
    }
    return job.at + m.hours > 24 ? 4 : 0;
  }
  private List<Integer> hours(Job job) {
    List<Integer> all = new ArrayList<>();
    for (int h = job.at; job.kind.equals("at") && h < 24 && h < job.at + world.makings.get(job.what).hours; h++) all.add(h);
    return all;
  }
  private Done live(int set, int day, Set<Integer> ill) {
    Done d = new Done();
    for (int j = 0; j < world.plan.size(); j++) if (why(j) != 0 || !Collections.disjoint(world.plan.get(j).who, ill)) d.left.add(j);
    List<int[]> coming = new ArrayList<>();
    int there = set;
    for (int time = 0; time <= 24; time++) {
      for (int[] c : coming) if (c[0] == time) there |= 1 << c[1];
      for (Want w : world.wants) {
        if (w.time == time && has(there, w.thing)) { d.worth += w.worth; d.had++; if (w.eaten) there &= ~(1 << w.thing); }
      }
      for (int j = 0; j < world.plan.size(); j++) {
        Job job = world.plan.get(j);
        if (job.at != time || d.left.contains(j)) continue;
        Making m = world.makings.get(job.what);
        if (missing(d, j, there, m.needs())) continue;
        for (int k : m.of) there &= ~(1 << k);
        coming.add(new int[] {time + m.hours, m.gives});
      }
      d.there[time] = there;
    }
    Map<String, Integer> kept = new HashMap<>();
    for (int j = 0; j < world.plan.size(); j++) {
      Job job = world.plan.get(j);
      if (job.kind.equals("at") || d.left.contains(j) || missing(d, j, there, Set.of(job.what))) continue;
      kept.put(job.kind, job.what);
    }
    d.there[25] = stays(there, kept.getOrDefault("wear", NONE), kept.getOrDefault("hold", NONE), kept.getOrDefault("send", NONE), day);
    return d;
  }
  private boolean missing(Done d, int j, int there, Set<Integer> needs) {
    for (int k : new TreeSet<>(needs)) {
      if (!has(there, k)) {
        d.left.add(j);
        if (d.missingJob == NONE) { d.missingJob = j; d.missingThing = k; }
        return true;
      }
    }
    return false;
  }
  public int judged(int what) {
    return icall(() -> {
      need(what >= 0 && what <= 2, 5);
      int kind = 0;
      int job = NONE;
      int thing = NONE;
      if (world.plan != null) {
        for (int j = world.plan.size() - 1; j >= 0; j--) if (why(j) != 0) { kind = why(j); job = j; }
        Done d = live(0, 0, Set.of());
        if (kind == 0 && d.missingJob != NONE) { kind = 6; job = d.missingJob; thing = d.missingThing; }
      }
      if (what == 1) need(kind != 0, 8);
      if (what == 2) need(kind == 6, 8);
      return what == 0 ? kind : what == 1 ? job : thing;
    });
  }
  public int done(int set, int day) {
    return icall(() -> {
      need(isSet(set), 2); need(day >= 0 && day <= 999, 5); need(world.plan != null, 8);
      Done d = live(set, day, Set.of());
      there = d.there;
      return d.worth;
    });
  }
  public int there(int time) {
    return icall(() -> { need(time >= 0 && time <= 25, 5); need(there != null, 8); return there[time]; });
  }
  private int lives(int n, int seed) {
    int[] sums = new int[4];
    int set = 0;
    int worth = 0;
    long s = seed;
    for (int day = 0; day < n; day++) {
      Set<Integer> ill = new HashSet<>();
      for (int p = 0; p < world.people.size() && seed != NONE; p++) {
        s = (s * 2333 + 10007) % 65536;
        if (s / 8 % 16 < world.people.get(p).ill) ill.add(p);
      }
      Done d = live(set, day, ill);
      worth += d.worth;
      set = d.there[25];
      sums[0] += d.left.size();
      sums[2] += d.had == world.wants.size() ? 1 : 0;
      sums[3] += d.had == 0 ? 1 : 0;
    }
    sums[1] = set;
    lived = sums;
    return worth;
  }
  public int lives(int n) {
    return icall(() -> { need(n >= 1 && n <= 99, 5); need(world.plan != null, 8); return lives(n, NONE); });
  }
  public int ill(int seed, int n) {
    return icall(() -> {
      need(seed >= 0 && seed <= 9999 && n >= 1 && n <= 99, 5); need(world.plan != null, 8);
      return lives(n, seed);
    });
  }
  public int lived(int what) {
    return icall(() -> { need(what >= 0 && what <= 3, 5); need(lived != null, 8); return lived[what]; });
  }
  public int mark() {
    return icall(() -> { need(marks.size() < 3, 7); marks.add(world.copy()); return marks.size(); });
  }
  public int back() {
    return icall(() -> { need(!marks.isEmpty(), 8); world = marks.remove(marks.size() - 1); return marks.size(); });
  }
}
