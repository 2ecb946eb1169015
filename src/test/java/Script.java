import java.util.ArrayList;
import java.util.List;

/**
 * Runs of calls written as a text, each on a new object: "call" alone is made, "call=answer" must answer
 * so, "call!WORD" must be refused so and change nothing.
 */
final class Script {
  private Script() {
  }

  static void run(String label, String text) {
    Session session = new Session();
    List<String> before = new ArrayList<>();
    for (String part : text.trim().split("\\s+")) {
      int mark = part.indexOf(')') + 1;
      String call = part.substring(0, mark);
      String word = mark == part.length() ? "" : part.substring(mark + 1);
      boolean refusal = part.startsWith("!", mark);
      if (refusal) {
        refused(label, before, call, word);
      }
      long answer = session.call(call);
      if (!word.isEmpty()) {
        Check.due(label + ": " + call, answer, Session.answerFor(call, word));
      }
      if (!refusal) {
        before.add(call);
      }
    }
  }

  /**
   * Of two objects with the same calls behind them one makes the refused call: all else must be alike in both.
   * Only the FINDINGS change count(8).
   */
  private static void refused(String label, List<String> before, String call, String word) {
    Session with = played(before);
    Session without = played(before);
    String of = label + ": " + call + " behind " + before;
    Check.due(of, with.call(call), Session.answerFor(call, word));
    long wasFound = without.ask("count", 8);
    long due = Session.isFinding(word) ? -10 - Session.number(word) : wasFound;
    Check.due(of + ", count(8)", with.ask("count", 8), due);
    String got = with.seenWhole();
    String want = without.seenWhole();
    Check.due(of + " changes nothing: " + got + " / " + want, got.equals(want));
  }

  private static Session played(List<String> calls) {
    Session session = new Session();
    for (String call : calls) {
      session.call(call);
    }
    return session;
  }

  /** The number that stands as ? in a call: least and most are taken, and BAD is what lies beyond, far off too. */
  static void bounds(String label, String before, String call, int least, int most) {
    for (int taken : new int[] {least, most}) {
      String with = call.replace("?", Integer.toString(taken));
      long answer = played(List.of((before.isBlank() ? "count(0)" : before.trim()).split("\\s+"))).call(with);
      Check.due(label + ": " + with + " is taken, answer " + answer, answer != Session.answerFor(with, "BAD"));
    }
    for (int beyond : new int[] {least - 1, most + 1, Integer.MIN_VALUE, Integer.MAX_VALUE}) {
      run(label, before + " " + call.replace("?", Integer.toString(beyond)) + "!BAD");
    }
  }

  /** Each HULL or NAME, as ? in a call, is 0 to 5. */
  static void ship(String label, String before, String call) {
    bounds(label, before, call, 0, 5);
  }

  /** YEARS as a text: n of them, which go around a few rows. */
  static String years(int n) {
    String[] rows = {"120354", "543210", "012345", "103254", "123450"};
    StringBuilder text = new StringBuilder();
    for (int year = 0; year < n; year++) {
      text.append(year == 0 ? "" : ";").append(rows[year % rows.length]);
    }
    return text.toString();
  }

  /** An object with something of everything, and STORE as its latest FINDING, so that a change would show. */
  static String lived() {
    return "hull(0,0,4) hull(1,0,3) hull(2,1,7) name(3,0,4) name(4,1,6) name(5,2,9) text(" + years(3) + ") "
        + "claim(0,0,9) claim(5,1,20) claim(2,2,7) claim(1,9,50) seen(3,0,3) seen(0,1,7) "
        + "fill(0,0,5,4,3,2,1,0,77) fill(1,1,-300,300) sheet(2,2,0) copy(0,0,1,0,1)";
  }
}
