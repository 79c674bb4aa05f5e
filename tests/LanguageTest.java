import java.lang.reflect.Constructor;
import java.lang.reflect.Field;
import java.lang.reflect.Method;
import java.lang.reflect.Modifier;
import java.nio.file.Files;
import java.nio.file.Path;
import java.util.ArrayList;
import java.util.Arrays;
import java.util.HashSet;
import java.util.List;
import java.util.Set;
import java.util.TreeSet;
import java.util.regex.Matcher;
import java.util.regex.Pattern;

/** What of ../shared/LANGUAGE.md can be seen by looking: the face, words, sizes. The first argument is the source. */
public final class LanguageTest {
  private static final String FACE = "int status() long top() long bottom() boolean tray(int,int,int) boolean write(int,int,long) long read(int,int) "
      + "boolean pour(int,int,int,int,int) int feed(int,int,int,int,int) int town(int) int law(int) int plan(int) int fault(int) int many(int) "
      + "int thing(int,int) int making(int,int) int awake(int,int) int want(int,int) int night(int,int,int,int,int) int soonest(int,int) "
      + "int bars(int,int,int) int labour(int,int) int hands(int) int day(int,int) int days(int,int,int) int step(int) int stepTime(int) "
      + "int firstNight(int) int price(int,int,int) int kept(int,int) int bestKept(int) int more(int,int) int bestMore(int) int shift(int) "
      + "boolean west(int,int,int) boolean speed(int,int) int way(int,int,int) int judged(int) int done(int,int) int there(int) int lives(int) "
      + "int ill(int,int) int lived(int) int mark() int back()";

  public static void main(String[] args) throws Exception {
    face();
    Set<String> names = new HashSet<>();
    for (Method m : OverNight.class.getDeclaredMethods()) if (Modifier.isPublic(m.getModifiers())) names.add(m.getName());
    List<Class<?>> all = new ArrayList<>(Arrays.asList(OverNight.class.getDeclaredClasses()));
    all.add(OverNight.class);
    Check.part("classes");
    Check.due(true, all.size() <= 13);
    for (Class<?> c : all) parts(c, names);
    String source = Files.readString(Path.of(args[0]));
    Check.part("signs 1 to 127");
    Check.due(true, source.chars().allMatch(c -> c == '\n' || c >= 32 && c < 127));
    words(withoutComments(source));
    shortMethods(source);
    Check.end("LanguageTest");
  }

  private static void face() {
    Check.part("the face");
    Set<String> due = new TreeSet<>(Arrays.asList(FACE.split(" (?=(int|long|boolean) )")));
    Set<String> got = new TreeSet<>();
    for (Method m : OverNight.class.getDeclaredMethods()) {
      if (Modifier.isPublic(m.getModifiers())) {
        StringBuilder s = new StringBuilder();
        for (Class<?> p : m.getParameterTypes()) s.append(s.length() == 0 ? "" : ",").append(p.getSimpleName());
        got.add(m.getReturnType().getSimpleName() + " " + m.getName() + "(" + s + ")");
      } else if (!Modifier.isPrivate(m.getModifiers())) {
        Check.tell(m + " is neither public nor private");
      }
    }
    if (!due.equals(got)) Check.tell("the methods are " + got);
    for (Field f : OverNight.class.getDeclaredFields()) {
      if (!Modifier.isPrivate(f.getModifiers()) && !f.getName().equals("NONE")) Check.tell(f + " is not private");
    }
    Constructor<?>[] made = OverNight.class.getDeclaredConstructors();
    Check.due(true, made.length == 1 && Modifier.isPublic(made[0].getModifiers()) && made[0].getParameterCount() == 0);
    Check.due(true, Modifier.isFinal(OverNight.class.getModifiers()));
  }

  private static void parts(Class<?> c, Set<String> faceNames) {
    Check.part(c.getName());
    int fields = 0;
    for (Field f : c.getDeclaredFields()) {
      if (Modifier.isStatic(f.getModifiers())) Check.due(true, Modifier.isFinal(f.getModifiers()));
      else fields++;
    }
    if (fields > 22) Check.tell(fields + " fields");
    for (Method m : c.getDeclaredMethods()) {
      if (m.getParameterCount() > 7) Check.tell(m + " takes more than 7");
      if (Modifier.isPrivate(m.getModifiers()) && faceNames.contains(m.getName())) Check.tell(m + " bears the name of a public one");
    }
    if (c != OverNight.class) {
      Check.due(true, Modifier.isStatic(c.getModifiers()));
      Check.due(0, c.getDeclaredClasses().length);
    }
  }

  private static String withoutComments(String source) {
    return source.replaceAll("(?s)/\\*.*?\\*/", " ").replaceAll("//[^\n]*", " ").replaceAll("\"[^\"\n]*\"", "\"\"").replaceAll("'(\\\\.|[^'\n])'", "'x'");
  }

  private static void words(String code) {
    Check.part("words");
    Matcher m = Pattern.compile("\\b(throw|throws|try|catch|finally|synchronized|assert|import|package|instanceof|Object|Exception|Thread|"
        + "while|Random|hashCode|toString|native|volatile|transient|var|enum|record|interface|protected|default ->|[a-zA-Z]+Exact)\\b|->|::|static \\{").matcher(code);
    while (m.find()) Check.tell("the word " + m.group());
    m = Pattern.compile("\\bSystem\\.(\\w+)|\\bMath\\.(\\w+)|\\bInteger\\.(\\w+)|\\bLong\\.(\\w+)").matcher(code);
    Set<String> well = Set.of("System.arraycopy", "Math.max", "Math.min", "Integer.bitCount", "Integer.numberOfTrailingZeros");
    while (m.find()) if (!well.contains(m.group())) Check.tell("the library's " + m.group());
    // objects are made with the object itself alone: in fields and the constructors
    m = Pattern.compile("\n    +[^\n]*\\bnew \\w+").matcher(code);
    while (m.find()) {
      String line = m.group().trim();
      boolean field = line.startsWith("private") || line.startsWith("final") || line.matches("(int|Law|Plan) \\w+ = new .*");
      boolean constructor = line.matches("(trays|towns)\\[i\\] = new \\w+");
      if (!field && !constructor) Check.tell("made while it runs: " + line);
    }
  }

  /** A method of a class inside begins with four blanks, one of the class itself with two. */
  private static void shortMethods(String source) {
    Check.part("short methods");
    String[] lines = source.split("\n");
    for (int i = 0; i < lines.length; i++) {
      Matcher m = Pattern.compile("^(  |    )([A-Za-z].*\\) \\{)$").matcher(lines[i]);
      if (!m.matches()) continue;
      for (int j = i; j < lines.length; j++) {
        if (lines[j].equals(m.group(1) + "}")) {
          if (j - i + 1 > 60) Check.tell(m.group(2) + " has " + (j - i + 1) + " lines");
          break;
        }
      }
    }
  }
}
