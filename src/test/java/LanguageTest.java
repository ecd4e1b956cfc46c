import java.io.IOException;
import java.nio.file.Files;
import java.nio.file.Path;
import java.util.List;
import java.util.regex.Matcher;
import java.util.regex.Pattern;

/** What of LANGUAGE.md can be seen in the text of the class. */
final class LanguageTest {
  private static final String[] RULED_OUT = {"throw", "throws", "try", "catch", "finally", "synchronized", "assert", "import",
    "package", "new Object", "Object", "Exception", "var", "record", "instanceof", "->", "::", "Random", "System.out",
    "System.nanoTime", "currentTimeMillis", "Thread", "native", "Exact", "Math.random", "toString", "hashCode", "protected",
    "\\.values\\(\\)", "float", "double"};
  private static final Pattern HEAD =
      Pattern.compile("^ {4,8}(?!class|private static final class)[\\w\\[\\]. ]+\\(([^()]*)\\) \\{$");

  private LanguageTest() {
  }

  public static void main(String[] args) throws IOException {
    String path = System.getProperty("main", "src/main/java/EndsInFive.java");
    List<String> lines = Files.readAllLines(Path.of(path));
    StringBuilder code = new StringBuilder();
    for (String line : lines) {
      boolean isComment = line.trim().startsWith("*") || line.trim().startsWith("/*") || line.trim().startsWith("//");
      code.append(isComment ? "" : line).append('\n');
    }
    for (String word : RULED_OUT) {
      String wanted = Character.isLetter(word.charAt(0)) ? "\\b" + word + "\\b" : word;
      Matcher found = Pattern.compile(wanted).matcher(code);
      Due.is("rules 1, 3, 4, 6: " + word, found.find() ? code.substring(0, found.end()).split("\n").length : 0, 0);
    }
    methods(lines);
    int classes = count(code, "\\bclass \\w+ \\{");
    Due.is("rule 11: classes", classes <= 12 ? 0 : classes, 0);
    Due.is("rule 1: public members beside the methods", count(code, "(?m)^    public [^(]*=|^    public EndsInFive\\("), 2);
    Due.is("rule 5: static fields are final", count(code, "(?m)^ +(private |public )?static (?!final|class)[^(]*;"), 0);
    Due.end();
  }

  private static int count(CharSequence code, String wanted) {
    Matcher found = Pattern.compile(wanted).matcher(code);
    int count = 0;
    while (found.find()) {
      count++;
    }
    return count;
  }

  private static void methods(List<String> lines) {
    int methods = 0;
    for (int i = 0; i < lines.size(); i++) {
      Matcher head = HEAD.matcher(lines.get(i));
      if (!head.matches()) {
        continue;
      }
      methods++;
      String indent = lines.get(i).replaceFirst("\\S.*", "");
      int end = i;
      while (!lines.get(end).equals(indent + "}")) {
        end++;
      }
      int parameters = head.group(1).isBlank() ? 0 : head.group(1).split(",").length;
      Due.is("rule 11: parameters of " + lines.get(i).trim(), parameters <= 7 ? 0 : parameters, 0);
      Due.is("rule 11: lines of " + lines.get(i).trim(), end - i <= 60 ? 0 : end - i, 0);
    }
    Due.is("methods are found", methods > 53 ? 0 : methods, 0);
  }
}
