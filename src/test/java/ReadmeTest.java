import java.lang.reflect.Method;
import java.lang.reflect.Modifier;
import java.nio.file.Files;
import java.nio.file.Path;
import java.util.ArrayList;
import java.util.List;
import java.util.Set;
import java.util.TreeSet;
import java.util.regex.Matcher;
import java.util.regex.Pattern;
import java.util.stream.Stream;

/** README.md: the calls of its examples answer what stands behind them, and no method and no test is left out. */
public final class ReadmeTest {
  private static final Pattern CALL = Pattern.compile("x\\.(\\w+)\\(([-0-9, ]*)\\); +// (-?\\d+)(:? .*)?");
  private static final Pattern READ = Pattern.compile("read\\(x, \"([^\"]*)\"\\); +// (-?\\d+)(:? .*)?");
  private static final Pattern ROW = Pattern.compile("^\\| `(\\w+)\\(([\\w, ]*)\\)` \\|", Pattern.MULTILINE);

  private final Check check = new Check();
  private final Set<String> called = new TreeSet<>();
  private PlugHours x;

  public static void main(String[] args) throws Exception {
    ReadmeTest test = new ReadmeTest();
    String readme = Files.readString(Path.of("README.md"));
    int examples = 0;
    Matcher block = Pattern.compile("```java\n(.*?)```", Pattern.DOTALL).matcher(readme);
    while (block.find()) {
      if (block.group(1).startsWith("int read(")) test.helper(block.group(1));
      else test.example(block.group(1));
      examples++;
    }
    test.check.isTrue("six blocks of calls: " + examples, examples == 6);
    test.methods(readme);
    test.tests(readme);
    test.check.end("ReadmeTest");
  }

  private void example(String rows) throws Exception {
    x = null;
    for (String row : rows.split("\n")) {
      Matcher call = CALL.matcher(row);
      Matcher read = READ.matcher(row);
      if (row.equals("PlugHours x = new PlugHours();")) x = new PlugHours();
      else if (x != null && call.matches()) check.due(row, answer(call.group(1), call.group(2)), Long.parseLong(call.group(3)));
      else if (x != null && read.matches()) check.due(row, read(x, read.group(1)), Long.parseLong(read.group(2)));
      else check.isTrue("a row that can be tried: " + row, false);
    }
  }

  private long answer(String name, String numbers) throws Exception {
    List<Object> arguments = new ArrayList<>();
    if (!numbers.isEmpty()) for (String number : numbers.split(", *")) arguments.add(Integer.parseInt(number));
    Class<?>[] types = new Class<?>[arguments.size()];
    java.util.Arrays.fill(types, int.class);
    called.add(name);
    Number got = (Number) PlugHours.class.getMethod(name, types).invoke(x, arguments.toArray());
    return got.longValue();
  }

  /** As README.md has it, which helper() compares. */
  static int read(PlugHours x, String text) {
    for (int i = 0; i < text.length(); i += 20) {
      int[] five = new int[5];
      for (int k = 0; k < 20; k++) {
        int sign = i + k < text.length() ? text.charAt(i + k) : ' ';
        five[k / 4] = five[k / 4] << 8 | sign;
      }
      x.feed(five[0], five[1], five[2], five[3], five[4]);
    }
    x.end(text.length());
    return x.rules();
  }

  private void helper(String shown) throws Exception {
    String own = Files.readString(Path.of("src/test/java/ReadmeTest.java"));
    check.isTrue("read() as shown is read() as tried", squeezed(own).contains("static " + squeezed(shown).strip()));
  }

  private static String squeezed(String text) { return text.replaceAll("\\s+", " "); }

  private void methods(String readme) {
    Set<String> rows = new TreeSet<>();
    Matcher row = ROW.matcher(readme);
    while (row.find()) rows.add(row.group(1) + " " + (row.group(2).isEmpty() ? 0 : row.group(2).split(",").length));
    Set<String> face = new TreeSet<>();
    for (Method m : PlugHours.class.getDeclaredMethods()) {
      if (!Modifier.isPublic(m.getModifiers())) continue;
      face.add(m.getName() + " " + m.getParameterCount());
      check.isTrue(m.getName() + " is called in an example", called.contains(m.getName()));
    }
    check.isTrue("the methods are listed: " + rows, rows.equals(face));
  }

  private void tests(String readme) throws Exception {
    try (Stream<Path> files = Files.list(Path.of("src/test/java"))) {
      for (String file : files.map(f -> f.getFileName().toString()).filter(f -> f.endsWith("Test.java")).toList()) {
        String name = file.replace(".java", "");
        check.isTrue(name + " is listed", Pattern.compile("^\\|[^|]*\\b" + name + "\\b[^|]*\\|", Pattern.MULTILINE).matcher(readme).find());
      }
    }
  }
}
