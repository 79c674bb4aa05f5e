import java.lang.reflect.Method;
import java.lang.reflect.Modifier;
import java.net.URL;
import java.net.URLClassLoader;
import java.nio.file.Files;
import java.nio.file.Path;
import java.util.ArrayList;
import java.util.List;
import java.util.Set;
import java.util.TreeSet;
import java.util.regex.Matcher;
import java.util.regex.Pattern;
import java.util.stream.Stream;
import javax.tools.ToolProvider;

/** README.md: its Java compiles, each call in it answers what stands behind it, and it names what is there. The first argument is the source. */
public final class ReadmeTest {
  private static final Pattern ANSWERED = Pattern.compile("(?ms)^(x\\.\\w+\\(.*?\\));  // (-?\\w+)\\b.*?$");
  private static final String[] COUNTS = "no one two three four five six seven eight nine ten eleven twelve thirteen".split(" ");

  public static void main(String[] args) throws Exception {
    Path source = Path.of(args[0]).toAbsolutePath().normalize();
    Path root = source.getParent().getParent().getParent().getParent();
    String page = Files.readString(root.resolve("README.md"));
    answers(page);
    namesEachCall(page);
    namesEachClass(page);
    namesEachTest(page, root);
    Check.end("ReadmeTest");
  }

  private static void answers(String page) throws Exception {
    Check.part("README.md, the calls");
    StringBuilder functions = new StringBuilder();
    StringBuilder calls = new StringBuilder();
    Matcher block = Pattern.compile("(?s)```java\n(.*?)```").matcher(page);
    while (block.find()) (block.group(1).startsWith("static ") ? functions : calls).append(block.group(1));
    List<String> said = new ArrayList<>();
    List<String> due = new ArrayList<>();
    Matcher m = ANSWERED.matcher(calls);
    while (m.find()) {
      said.add(m.group(1));
      due.add(m.group(2));
    }
    // all but the first line, which makes the object, are such calls
    Check.due(Pattern.compile("(?m)^\\w").matcher(calls).results().count(), said.size() + 1);
    List<?> got = run(functions, ANSWERED.matcher(calls).replaceAll("all.add(\"\" + $1);"));
    Check.due(due.size(), got.size());
    for (int i = 0; i < Math.min(due.size(), got.size()); i++) {
      Check.part("README.md, " + said.get(i));
      if (!due.get(i).equals(got.get(i))) Check.tell("answered " + got.get(i) + ", README.md says " + due.get(i));
      Check.due(due.get(i).hashCode(), got.get(i).hashCode());
    }
  }

  private static List<?> run(CharSequence functions, String statements) throws Exception {
    Path dir = Files.createTempDirectory("readme");
    Path file = dir.resolve("Page.java");
    Files.writeString(file, "public final class Page {\n" + functions
        + "public static java.util.List<String> run() {\njava.util.List<String> all = new java.util.ArrayList<>();\n" + statements + "return all;\n}\n}\n");
    int failed = ToolProvider.getSystemJavaCompiler().run(null, null, null, "-cp", System.getProperty("java.class.path"), "-d", dir.toString(), file.toString());
    Check.due(0, failed);
    try (URLClassLoader loader = new URLClassLoader(new URL[] {dir.toUri().toURL()}, ReadmeTest.class.getClassLoader())) {
      return failed == 0 ? (List<?>) loader.loadClass("Page").getMethod("run").invoke(null) : List.of();
    } finally {
      for (String name : new String[] {"Page.java", "Page.class"}) Files.deleteIfExists(dir.resolve(name));
      Files.deleteIfExists(dir);
    }
  }

  private static void namesEachCall(String page) {
    Check.part("README.md, the table of calls");
    String table = page.substring(page.indexOf("| what | calls |"), page.indexOf("## How it is made"));
    Set<String> due = new TreeSet<>();
    for (Method m : OverNight.class.getDeclaredMethods()) if (Modifier.isPublic(m.getModifiers())) due.add(m.getName());
    same(due, quoted(table));
  }

  private static void namesEachClass(String page) {
    Check.part("README.md, how it is made");
    String made = page.substring(page.indexOf("## How it is made"), page.indexOf("## How to run its tests"));
    Set<String> due = new TreeSet<>();
    for (Class<?> c : OverNight.class.getDeclaredClasses()) due.add(c.getSimpleName());
    same(due, quoted(made));
    Check.due(true, made.contains("One class with " + COUNTS[due.size()] + " inside it"));
  }

  private static void namesEachTest(String page, Path root) throws Exception {
    Check.part("README.md, the tests");
    String tests = page.substring(page.indexOf("| test |"));
    Set<String> due = new TreeSet<>();
    try (Stream<Path> files = Files.list(root.resolve("tests"))) {
      files.map(f -> f.getFileName().toString()).filter(f -> f.endsWith(".java")).forEach(f -> due.add(f.replace(".java", "")));
    }
    Set<String> got = quoted(tests);
    got.remove("OverNight");
    same(due, got);
  }

  /** What stands between ` and `, as names: without .java behind it. */
  private static Set<String> quoted(String part) {
    Set<String> all = new TreeSet<>();
    Matcher m = Pattern.compile("`(\\w+)(\\.java)?`").matcher(part);
    while (m.find()) all.add(m.group(1));
    return all;
  }

  private static void same(Set<String> due, Set<String> got) {
    Check.due(due.size(), got.size());
    if (!due.equals(got)) Check.tell("it names " + got + ", there are " + due);
  }
}
