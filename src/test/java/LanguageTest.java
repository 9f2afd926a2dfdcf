import java.nio.file.Files;
import java.nio.file.Path;
import java.util.ArrayList;
import java.util.List;
import java.util.regex.Matcher;
import java.util.regex.Pattern;

/** Rules of LANGUAGE.md that the text of the program shows. */
public final class LanguageTest {
  private static final String[] BANNED = {"\\bthrow\\b", "\\bthrows\\b", "\\btry\\b", "\\bcatch\\b", "\\bsynchronized\\b",
      "\\bassert\\b", "->", "::", "\\bstatic\\s*\\{", "\\bnew\\s+\\w+\\s*\\([^)]*\\)\\s*\\{", "Exact\\b", "\\bhashCode\\b",
      "\\btoString\\b", "\\bNaN\\b", "\\bThread\\b", "\\bSystem\\.(?!arraycopy\\b)", "\\bArrays\\.(?!fill\\b|copyOf\\b|copyOfRange\\b)",
      "\\bMath\\.(?!max\\b|min\\b|abs\\b)", "\\bprotected\\b", "^package\\b", "\\bInteger\\b", "\\bLong\\b", "\\bdouble\\b",
      "\\bfloat\\b", "for \\(;;\\)", "while \\(true\\)", "[^\\x00-\\x7f]"};

  public static void main(String[] args) throws Exception {
    Check check = new Check();
    String source = Files.readString(Path.of("src/main/java/PlugHours.java"));
    String code = source.replaceAll("(?s)/\\*.*?\\*/", "").replaceAll("//[^\n]*", "");
    String plain = code.replaceAll("\"[^\"\n]*\"", "\"\"").replaceAll("'.'", "' '");
    for (String banned : BANNED) {
      check.isTrue("nothing like " + banned, !Pattern.compile(banned, Pattern.MULTILINE).matcher(plain).find());
    }
    Matcher imports = Pattern.compile("^import (.*);", Pattern.MULTILINE).matcher(plain);
    while (imports.find()) check.isTrue("import " + imports.group(1), imports.group(1).equals("java.util.Arrays"));
    for (String field : all("static (?!final)\\w+ \\w+\\s*[=;]", plain)) check.isTrue(field, false);
    check.isTrue("at most twelve classes", all("\\bclass \\w+", plain).size() <= 13);
    for (String inside : all("^ +[\\w ]*class \\w+", plain)) check.isTrue(inside, inside.contains("private static final"));
    methods(check, plain);
    check.end("LanguageTest");
  }

  private static List<String> all(String pattern, String text) {
    List<String> found = new ArrayList<>();
    Matcher m = Pattern.compile(pattern, Pattern.MULTILINE).matcher(text);
    while (m.find()) found.add(m.group());
    return found;
  }

  /** A method begins with its head and ends with a brace as far in as the head. */
  private static void methods(Check check, String plain) {
    Matcher m = Pattern.compile("^( +)((?:public |private |static )*[\\w\\[\\]]* ?\\w+)\\(([^)]*)\\) \\{$", Pattern.MULTILINE).matcher(plain);
    int seen = 0;
    while (m.find()) {
      if (m.group(2).matches("(if|for|while|switch|else.*)\\b.*")) continue;
      seen++;
      int end = plain.indexOf("\n" + m.group(1) + "}", m.end());
      long lines = plain.substring(m.start(), end).lines().count();
      check.isTrue(m.group(2) + " has " + lines + " lines", lines <= 60);
      int parameters = m.group(3).isEmpty() ? 0 : m.group(3).split(",").length;
      check.isTrue(m.group(2) + " takes " + parameters, parameters <= (m.group(2).endsWith("int job") ? 8 : 7));
    }
    check.isTrue("methods were found: " + seen, seen > 60);
  }
}
