import java.io.IOException;
import java.lang.reflect.Method;
import java.lang.reflect.Modifier;
import java.nio.file.Files;
import java.nio.file.Path;
import java.util.ArrayList;
import java.util.Collections;
import java.util.List;
import java.util.Set;
import java.util.TreeSet;
import java.util.regex.Matcher;
import java.util.regex.Pattern;

/** README.md tells true: each call of its Java blocks answers what stands behind it, and no call is left out. */
public final class ReadmeTest {
  private static final Pattern NEW_OBJECT = Pattern.compile("SailAsAnother x = new SailAsAnother\\(\\);");
  private static final Pattern OVER_TEXT = Pattern.compile("for \\(char c : \"(.*)\"\\.toCharArray\\(\\)\\) \\{");
  private static final Pattern SO_OFTEN = Pattern.compile("for \\(int k = 0; k < (\\d+); k\\+\\+\\) \\{");
  private static final Pattern CALL = Pattern.compile("x\\.(\\w+)\\((.*)\\);(?: +// (-?\\d+)(?:: (.*))?)?");
  private static final Pattern REFUSAL = Pattern.compile("\\| `?([A-Z]+)`? \\| (-\\d+) \\| .* \\|");

  private final Set<String> called = new TreeSet<>();
  private final Set<String> told = new TreeSet<>();
  private Session session = null;
  /** What c is, time by time, in the loop that stands open; without one, a single time. */
  private List<Integer> times = List.of(0);

  public static void main(String[] args) throws IOException {
    ReadmeTest test = new ReadmeTest();
    List<String> lines = Files.readAllLines(Path.of("README.md"));
    test.playBlocks(lines);
    test.lookAtCalls();
    test.lookAtRefusals(lines);
    lookAtWords(String.join(" ", lines));
    Check.end();
  }

  private void playBlocks(List<String> lines) {
    boolean inside = false;
    for (String line : lines) {
      if (line.startsWith("```")) {
        inside = line.equals("```java");
      } else if (inside) {
        Check.due("a row that can be played: " + line, play(line.trim()));
      }
    }
  }

  private boolean play(String row) {
    Matcher text = OVER_TEXT.matcher(row);
    Matcher often = SO_OFTEN.matcher(row);
    Matcher call = CALL.matcher(row);
    if (NEW_OBJECT.matcher(row).matches()) {
      session = new Session();
    } else if (text.matches()) {
      times = text.group(1).chars().boxed().toList();
    } else if (often.matches()) {
      times = Collections.nCopies(Integer.parseInt(often.group(1)), 0);
    } else if (row.equals("}")) {
      times = List.of(0);
    } else {
      return session != null && call.matches() && played(call);
    }
    return true;
  }

  /** A call in a loop may stand without an answer; each other one must have it. */
  private boolean played(Matcher call) {
    long answer = 0;
    for (int c : times) {
      answer = session.ask(call.group(1), numbers(call.group(2), c));
    }
    if (call.group(3) == null) {
      return times.size() > 1;
    }
    Check.due("README: " + call.group(), answer, Long.parseLong(call.group(3)));
    called.add(call.group(1));
    if (call.group(4) != null) {
      told.add(call.group(3) + " " + call.group(4).split("\\W")[0]);
    }
    return true;
  }

  private static int[] numbers(String inside, int c) {
    List<Integer> numbers = new ArrayList<>();
    for (String word : inside.isEmpty() ? new String[0] : inside.split(", ")) {
      if (word.equals("c")) {
        numbers.add(c);
      } else if (word.matches("'.'")) {
        numbers.add((int) word.charAt(1));
      } else {
        numbers.add(Session.number(word.replace("SailAsAnother.", "")));
      }
    }
    return numbers.stream().mapToInt(Integer::intValue).toArray();
  }

  private void lookAtCalls() {
    for (Method method : SailAsAnother.class.getDeclaredMethods()) {
      if (Modifier.isPublic(method.getModifiers())) {
        Check.due("README has an answer of " + method.getName() + "()", called.contains(method.getName()));
      }
    }
  }

  /** Each refusal has its number in the table, and a call that is refused so. */
  private void lookAtRefusals(List<String> lines) {
    Set<String> words = new TreeSet<>();
    for (String line : lines) {
      Matcher row = REFUSAL.matcher(line);
      if (row.matches()) {
        words.add(row.group(1));
        Check.due("README: " + line, Long.parseLong(row.group(2)), Session.number(row.group(1)));
        Check.due("README has a call refused by " + row.group(1), told.contains(row.group(2) + " " + row.group(1)));
      }
    }
    Set<String> due = Set.of("BAD", "NOT", "FULL", "NULL", "INDEX", "CAST", "STORE", "SIZE");
    Check.due("README's table has each refusal: " + words, words.equals(due));
  }

  private static void lookAtWords(String readme) {
    Check.due("README says for how many calls", readme.contains("at most 512 calls"));
    Check.due("README says how to run the tests", readme.contains("```sh .ci/run ```"));
    Check.due("and there it is", Files.isExecutable(Path.of(".ci/run")));
  }
}
