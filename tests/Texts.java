import java.util.ArrayList;
import java.util.List;
import java.util.Random;

/** Texts by draws: towns, laws, plans, mostly well, at times spoiled; and what feeds them to a tape. */
public final class Texts {
  private final Random random;
  private final List<String> things = new ArrayList<>();
  private final List<String> makings = new ArrayList<>();
  private final List<String> people = new ArrayList<>();
  private boolean clean;

  Texts(Random random) { this.random = random; }

  int below(int n) { return random.nextInt(n); }
  boolean once(int of) { return below(of) == 0; }
  /** Something wrong, in one text of four, so often. */
  private boolean slip(int of) { return !clean && once(of); }
  private String any(List<String> names) { return names.isEmpty() || slip(60) ? "nobody" : names.get(below(names.size())); }

  private String number(int low, int high) {
    if (slip(40)) return "" + below(12000);
    int v = low + below(high - low + 1);
    return once(30) ? "0" + v : "" + v;
  }

  private String name(String kind, int k) {
    if (slip(20)) return any(things);
    if (slip(60)) return "abcdefghi".substring(0, 8 + below(2));
    return kind + (char) ('a' + k);
  }

  /** A blank or two between, none ahead of a SIGN. */
  private String spaced(String plain) {
    StringBuilder s = new StringBuilder();
    for (char c : plain.toCharArray()) {
      if (c == ' ' && once(12)) s.append('\n');
      if (c == ';' && once(12)) s.append(' ');
      s.append(c);
    }
    return s.toString();
  }

  private String spoiled(String text) {
    if (text.isEmpty() || clean || once(2)) return text;
    int at = below(text.length());
    switch (below(5)) {
      case 0: return text.substring(0, at);
      case 1: return text.substring(0, at) + text.substring(at + 1);
      case 2: return text.substring(0, at) + (char) below(256) + text.substring(at);
      case 3: return text.substring(0, at) + ";<>=() 7z".charAt(below(9)) + text.substring(at + 1);
      default:
        String[] words = {" thing ", " of ", " with ", " not ", "(", ")", " and ", " day ", " at ", " 5 ", " wear ", " eaten ", " by ", ";"};
        return text.substring(0, at) + words[below(words.length)] + text.substring(at);
    }
  }

  private static String cut(String s, int most) { return s.length() <= most ? s : s.substring(0, most); }

  String town(int size) {
    clean = !once(4);
    things.clear();
    makings.clear();
    people.clear();
    StringBuilder s = new StringBuilder();
    int n = (once(12) ? 0 : 1 + below(size)) + (slip(15) ? 5 : 0);
    for (int k = 0; k < n; k++) {
      things.add(name("t", k));
      s.append("thing ").append(things.get(k)).append(once(2) ? " wear" : "").append(once(2) ? " send" : "").append("; ");
    }
    int m = n == 0 ? 0 : below(Math.min(13, 2 * n + 2)) + (slip(15) ? 6 : 0);
    for (int k = 0; k < m; k++) {
      String name = name("m", k);
      s.append("making ").append(name).append(" gives ").append(any(things)).append(" hours ");
      s.append(once(8) ? number(1, 24) : number(1, 6)).append(" hands ").append(once(4) ? number(1, 3) : "1");
      List<String> free = new ArrayList<>(things);
      needs(s, " of", free);
      needs(s, " with", free);
      s.append("; ");
      makings.add(name);
    }
    int p = below(5) + (slip(15) ? 4 : 0);
    for (int k = 0; k < p; k++) {
      String name = name("p", k);
      s.append("person ").append(name).append(" from ").append(number(0, 24)).append(" to ").append(number(0, 24));
      if (once(2)) s.append(" ill ").append(number(0, 16));
      s.append("; ");
      people.add(name);
    }
    int w = n == 0 ? 0 : below(7) + (slip(15) ? 4 : 0);
    for (int k = 0; k < w; k++) {
      s.append("want ").append(any(things)).append(" at ").append(number(0, 24)).append(" worth ");
      s.append(once(3) ? number(1, 999) : number(1, 9)).append(once(2) ? " eaten" : "").append("; ");
    }
    return cut(spoiled(spaced(s.toString())), 800);
  }

  private void needs(StringBuilder s, String word, List<String> free) {
    if (!once(3) || free.isEmpty()) return;
    s.append(word);
    for (int i = 0; i == 0 || i < 3 && once(3) && !free.isEmpty(); i++) {
      String name = any(free);
      s.append(' ').append(name);
      if (!slip(15)) free.remove(name);
    }
  }

  String law() {
    clean = !once(3);
    if (once(20)) return "";
    StringBuilder s = new StringBuilder();
    for (String thing : things) {
      if (once(6)) continue;
      s.append(slip(20) ? any(things) : thing).append(" stays ");
      either(s, 0);
      s.append("; ");
    }
    return cut(spoiled(spaced(s.toString())), 300);
  }

  private void either(StringBuilder s, int depth) {
    for (int i = 0; i == 0 || once(3); i++) {
      if (i > 0) s.append(once(2) ? " or " : " and ");
      one(s, depth);
    }
  }

  private void one(StringBuilder s, int depth) {
    if (once(5) || depth > 0 && once(clean ? 4 : 2)) {
      s.append("not ");
      one(s, depth + 1);
    } else if (once(5) || depth > 1 && once(3)) {
      s.append("(");
      either(s, depth + 1);
      s.append(")");
    } else if (once(3)) {
      s.append("here ").append(any(things));
    } else if (once(3)) {
      s.append("day ").append("<>=".charAt(below(3))).append(' ').append(number(0, 6));
    } else {
      s.append(new String[] {"worn", "held", "sent"}[below(3)]);
    }
  }

  String plan() {
    clean = !once(3);
    if (once(20) || makings.isEmpty() || people.isEmpty()) return once(2) || things.isEmpty() ? "" : "wear " + any(things) + ";";
    StringBuilder s = new StringBuilder();
    int n = below(once(10) ? 30 : 9);
    List<String> kinds = new ArrayList<>(List.of("wear ", "hold ", "send "));
    for (int i = 0; i < n; i++) {
      if (once(4) && !kinds.isEmpty()) {
        String kind = kinds.get(below(kinds.size()));
        s.append(kind).append(any(things)).append("; ");
        if (!slip(5)) kinds.remove(kind);
      }
      s.append("at ").append(once(2) ? number(0, 23) : number(0, 9)).append(' ').append(any(makings)).append(" by");
      List<String> free = new ArrayList<>(people);
      for (int k = 0; k == 0 || once(4) && !free.isEmpty(); k++) {
        String name = any(free);
        s.append(' ').append(name);
        if (!slip(10)) free.remove(name);
      }
      s.append("; ");
    }
    return cut(spoiled(spaced(s.toString())), 300);
  }

  /** Fives of ints with a text in them, blanks behind it. */
  static List<int[]> fives(String text) {
    List<int[]> all = new ArrayList<>();
    for (int i = 0; i < text.length(); i += 20) {
      int[] five = new int[5];
      for (int k = 0; k < 20; k++) {
        int c = i + k < text.length() ? text.charAt(i + k) : ' ';
        five[k / 4] = five[k / 4] << 8 | c;
      }
      all.add(five);
    }
    return all;
  }
}
