import java.lang.reflect.Method;
import java.util.ArrayList;
import java.util.Comparator;
import java.util.HashMap;
import java.util.List;
import java.util.Map;
import java.util.Random;

/** Runs of calls by draws, asked of the program and of the model; STATUS, FRACTION and FAULT behind each. */
public final class ModelTest {
  private static final int RUNS = 400;
  private static final int CALLS = 512;
  private static final List<Method> CALLED = new ArrayList<>();
  private static final Map<Method, Method> TWIN = new HashMap<>();
  private static final int[] ODD = {-1, -2, 25, 24, 23, 0, 1, 60, 61, 99, 100, 300, 301, 999, 1000, 10000, 1 << 24, 1 << 30, Integer.MIN_VALUE, Integer.MAX_VALUE};
  private static final Map<String, Integer> STATUSES = new HashMap<>();

  private final Random random;
  private final Texts texts;
  private final OverNight program = new OverNight();
  private final Model model = new Model();
  private final int size;
  private final StringBuilder told = new StringBuilder();

  private ModelTest(int seed) {
    random = new Random(seed);
    texts = new Texts(random);
    size = seed % 10 == 9 ? 8 : 2 + seed % 4;
  }

  public static void main(String[] args) throws Exception {
    for (Method m : OverNight.class.getDeclaredMethods()) {
      if (java.lang.reflect.Modifier.isPublic(m.getModifiers())) {
        CALLED.add(m);
        TWIN.put(m, Model.class.getMethod(m.getName(), m.getParameterTypes()));
      }
    }
    CALLED.sort(Comparator.comparing(Method::getName));
    int runs = args.length > 1 ? Integer.parseInt(args[1]) : RUNS;
    int first = args.length > 2 ? Integer.parseInt(args[2]) : 0;
    int wrong = 0;
    for (int seed = first; seed < first + runs && wrong < 3; seed++) {
      ModelTest test = new ModelTest(seed);
      String said = test.run();
      if (said != null) {
        wrong++;
        System.out.println("seed " + seed + ": " + said + "\n" + test.told);
      }
    }
    if (args.length > 3) STATUSES.keySet().stream().sorted().forEach(k -> System.out.println(k + ": " + STATUSES.get(k)));
    System.out.println(runs + " runs of " + CALLS + " calls against the model, " + wrong + " wrong");
    if (wrong > 0) System.exit(1);
  }

  private String run() throws Exception {
    for (int calls = 0; calls < CALLS; ) {
      if (calls == 0 || texts.once(70)) {
        int n = calls;
        for (String kind : new String[] {"town", "law", "plan"}) {
          String text = kind.equals("town") ? texts.town(size) : kind.equals("law") ? texts.law() : texts.plan();
          if (calls > 0 && texts.once(3)) continue;
          String said = text(kind, text);
          if (said != null) return said;
          n += 3 + text.length() / 20;
        }
        calls = n;
      } else if (texts.once(25)) {
        String text = texts.once(2) ? texts.law() : texts.plan();
        String said = text(texts.once(2) ? "law" : "plan", text);
        if (said != null) return said;
        calls += 3 + text.length() / 20;
      } else {
        Method m = CALLED.get(texts.below(CALLED.size()));
        String name = m.getName();
        if (name.equals("town") || name.equals("law") || name.equals("plan")) if (!texts.once(20)) continue;
        String said = ask(m, arguments(m));
        if (said != null) return said;
        calls++;
      }
    }
    return null;
  }

  private String text(String kind, String text) throws Exception {
    told.append("  // ").append(kind).append(": ").append(text.replace("\n", "\\n")).append('\n');
    int before = program.feed(0, 0, 0, 0, 0);
    model.feed(0, 0, 0, 0, 0);
    if (before != NONE) {
      // empties the tape: what was on it would come ahead of the text
      String said = ask(OverNight.class.getMethod(kind, int.class), new Object[] {1});
      if (said != null) return said;
    }
    for (int[] f : Texts.fives(text)) {
      if (program.feed(f[0], f[1], f[2], f[3], f[4]) != model.feed(f[0], f[1], f[2], f[3], f[4])) return "feed";
    }
    return ask(OverNight.class.getMethod(kind, int.class), new Object[] {text.length()});
  }
  private static final int NONE = -1;

  private String ask(Method m, Object[] arguments) throws Exception {
    told.append("  ").append(m.getName()).append(java.util.Arrays.toString(arguments));
    Object got = m.invoke(program, arguments);
    Object due = TWIN.get(m).invoke(model, arguments);
    told.append(" -> ").append(due).append(" status ").append(model.status()).append('\n');
    STATUSES.merge(m.getName() + " " + model.status(), 1, Integer::sum);
    if (model.status() == 10) STATUSES.merge(m.getName() + " 10, FAULT " + model.fault(0), 1, Integer::sum);
    if (m.getName().equals("judged") && arguments[0].equals(0)) STATUSES.merge("judged 0, kind " + due, 1, Integer::sum);
    if (!got.equals(due)) return m.getName() + " answered " + got + ", due is " + due;
    if (program.status() != model.status()) return m.getName() + " left STATUS " + program.status() + ", due is " + model.status();
    if (program.top() != model.top() || program.bottom() != model.bottom()) return m.getName() + ": FRACTION";
    if (program.fault(0) != model.fault(0) || program.fault(1) != model.fault(1)) return m.getName() + ": FAULT " + program.fault(0) + " at " + program.fault(1) + ", due is " + model.fault(0) + " at " + model.fault(1);
    return null;
  }

  private Object[] arguments(Method m) {
    Class<?>[] types = m.getParameterTypes();
    Object[] all = new Object[types.length];
    for (int i = 0; i < types.length; i++) {
      if (types[i] == long.class) {
        all[i] = texts.once(3) ? random.nextLong() : (long) texts.below(1200) - 100;
      } else {
        all[i] = texts.once(25) ? ODD[texts.below(ODD.length)] : usual(m.getName(), i);
      }
    }
    return all;
  }

  private int thing() { return texts.below(Math.max(1, model.count(0))); }
  private int set() { return texts.below(1 << model.count(0)); }

  private int usual(String name, int i) {
    switch (name) {
      case "tray": return i == 0 ? texts.below(4) : i == 1 ? texts.below(3) : texts.below(12);
      case "write": case "read": return i == 0 ? texts.below(4) : texts.below(12);
      case "pour": return i == 0 || i == 2 ? texts.below(4) : texts.below(8);
      case "feed": return random.nextInt();
      case "many": return texts.below(6);
      case "thing": return i == 0 ? thing() : texts.below(3);
      case "making": return i == 0 ? texts.below(Math.max(1, model.count(1))) : texts.below(5);
      case "awake": return i == 0 ? texts.below(Math.max(1, model.count(2))) : texts.below(24);
      case "want": return i == 0 ? texts.below(Math.max(1, model.count(3))) : texts.below(4);
      case "night": return i == 0 ? set() : i == 4 ? texts.below(1000) : texts.once(2) ? NONE : thing();
      case "soonest": case "bars": return i == 0 ? thing() : i == 1 ? (texts.once(3) ? 0 : set()) : texts.below(2);
      case "labour": case "hands": return i == 0 ? 1 << thing() | (texts.once(2) ? set() : 0) : texts.once(2) ? 0 : set();
      case "day": return i == 0 ? set() : texts.below(25);
      case "days": return i == 0 ? set() : i == 1 ? 1 + texts.below(size > 5 ? 3 : 9) : texts.below(1000);
      case "step": case "stepTime": return texts.below(14);
      case "firstNight": case "lived": return texts.below(4);
      case "price": return i == 0 ? thing() : i == 1 ? texts.below(25) : set();
      case "kept": case "more": return i == 0 ? thing() : 1 + texts.below(size > 5 ? 3 : 9);
      case "bestKept": case "bestMore": return 1 + texts.below(size > 5 ? 2 : 5);
      case "shift": return texts.once(3) ? random.nextInt(1 << 24) : 1 << texts.below(24) | 1 << texts.below(24);
      case "west": return i == 0 ? 1 + texts.below(24) : texts.below(100);
      case "speed": return i == 0 ? 1 + texts.below(24) : 1 + texts.below(texts.once(2) ? 9999 : 40);
      case "way": return i == 0 ? texts.below(4) : i == 1 ? 1 + texts.below(4) : 1 + texts.below(24);
      case "judged": return texts.below(3);
      case "done": return i == 0 ? (texts.once(2) ? 0 : set()) : texts.below(1000);
      case "there": return texts.below(26);
      case "lives": return 1 + texts.below(20);
      case "ill": return i == 0 ? texts.below(10000) : 1 + texts.below(20);
      case "town": case "law": case "plan": return texts.below(60);
      case "fault": return texts.below(3);
      default: throw new IllegalStateException(name);
    }
  }
}
