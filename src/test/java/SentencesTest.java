import java.io.IOException;
import java.nio.file.Files;
import java.nio.file.Path;
import java.util.ArrayList;
import java.util.List;
import java.util.Set;
import java.util.TreeSet;
import java.util.regex.Matcher;
import java.util.regex.Pattern;

/** SENTENCES.md tells true: its quotes stand in the document, and the tests that it names are there and are run. */
public final class SentencesTest {
  private static final Path TESTS = Path.of("src/test/java");
  private static final Pattern LINE = Pattern.compile("- \"(.+)\" : (.+)");
  private static final Pattern HEAD = Pattern.compile("## Promise (\\d+)");
  private static final Pattern METHOD = Pattern.compile("private static void (\\w+)\\(");

  private final Set<String> named = new TreeSet<>();
  private final Set<Integer> promises = new TreeSet<>();

  public static void main(String[] args) throws IOException {
    SentencesTest test = new SentencesTest();
    test.readLines();
    for (int promise = 1; promise <= 38; promise++) {
      Check.due("promise " + promise + " has a line", test.promises.contains(promise));
    }
    for (String name : test.named) {
      Check.due(name + " is there and is called", isRun(name));
    }
    for (String name : edgeTests()) {
      Check.due(name + " is named in SENTENCES.md", test.named.contains(name));
    }
    Check.end();
  }

  private static String withPlainSpaces(String text) {
    return text.replaceAll("\\s+", " ");
  }

  private void readLines() throws IOException {
    String document = Files.readString(Path.of("../shared/DOC.md"));
    String plain = withPlainSpaces(document);
    String part = plain;
    int promise = 0;
    for (String line : Files.readAllLines(Path.of("src/test/SENTENCES.md"))) {
      Matcher head = HEAD.matcher(line);
      if (head.matches()) {
        promise = Integer.parseInt(head.group(1));
        part = withPlainSpaces(sectionOf(document, promise));
      }
      Matcher told = LINE.matcher(line);
      Check.due("a line that begins with - has a quote and tests: " + line, told.matches() || !line.startsWith("-"));
      if (told.matches()) {
        Check.due("promise " + promise + " (0: ahead of them) says: " + told.group(1), part.contains(told.group(1)));
        promises.add(promise);
        named.addAll(List.of(told.group(2).split(", ")));
      }
    }
  }

  private static String sectionOf(String document, int promise) {
    int begin = document.indexOf("## Promise " + promise + ":");
    int end = document.indexOf("\n## ", begin + 1);
    return begin < 0 || end < 0 ? "" : document.substring(begin, end);
  }

  /** A test is called, if its name comes once more than where it is written. */
  private static boolean isRun(String name) throws IOException {
    String[] parts = name.split("\\.");
    Path file = TESTS.resolve(parts[0] + ".java");
    if (parts.length != 2 || !Files.exists(file)) {
      return false;
    }
    String source = Files.readString(file);
    Matcher uses = Pattern.compile("\\b" + parts[1] + "\\(").matcher(source);
    int times = 0;
    while (uses.find()) {
      times++;
    }
    return source.contains("private static void " + parts[1] + "(") && times >= 2;
  }

  /** The tests of the EdgesOf files: their methods without a parameter. */
  private static List<String> edgeTests() throws IOException {
    List<String> tests = new ArrayList<>();
    for (String of : List.of("Book", "Years", "Lots", "Claims", "Sheets")) {
      String name = "EdgesOf" + of + "Test";
      String source = Files.readString(TESTS.resolve(name + ".java"));
      Matcher methods = METHOD.matcher(source);
      while (methods.find()) {
        if (source.charAt(methods.end()) == ')') {
          tests.add(name + "." + methods.group(1));
        }
      }
    }
    return tests;
  }
}
