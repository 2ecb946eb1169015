import java.lang.reflect.InvocationTargetException;
import java.lang.reflect.Method;
import java.util.Arrays;
import java.util.HashMap;
import java.util.Map;

/** One object under test, called by texts such as "hull(0,0,9)", for no more calls than the document allows. */
final class Session {
  private static final int MOST_CALLS = 512;
  private static final Map<String, Method> FACE = new HashMap<>();
  private static final Map<String, Integer> WORDS = Map.of("NONE", -1, "BAD", -2, "NOT", -3, "FULL", -4, "NULL", -11,
      "INDEX", -12, "CAST", -13, "STORE", -14, "SIZE", -15);

  private final SailAsAnother x = new SailAsAnother();
  private int calls = 0;

  static {
    for (Method m : SailAsAnother.class.getMethods()) {
      if (m.getDeclaringClass() == SailAsAnother.class) {
        FACE.put(m.getName(), m);
      }
    }
  }

  /** A number, or a word for one: LEAST and MOST are the ends of the ints. */
  static int number(String word) {
    if (word.equals("LEAST")) {
      return Integer.MIN_VALUE;
    }
    if (word.equals("MOST")) {
      return Integer.MAX_VALUE;
    }
    return WORDS.containsKey(word) ? WORDS.get(word) : Integer.parseInt(word);
  }

  static boolean isFinding(String word) {
    return WORDS.containsKey(word) && WORDS.get(word) <= -11;
  }

  /** The answer that a word or number stands for, which depends on the call: of a long, of get(), of all others. */
  static long answerFor(String call, String word) {
    boolean refusal = WORDS.containsKey(word) && !word.equals("NONE");
    String name = call.substring(0, call.indexOf('('));
    if (refusal && name.equals("get")) {
      return Integer.MIN_VALUE;
    }
    if (refusal && FACE.get(name).getReturnType() == long.class) {
      return Long.MIN_VALUE - number(word);
    }
    return word.matches("-?\\d+") ? Long.parseLong(word) : number(word);
  }

  /**
   * Makes a call. Beside those of the face there are text(..), which types its signs; bytes(n,b), which
   * types b n times; and fill(s,form,..), which makes a SHEET of just these items.
   */
  long call(String call) {
    int open = call.indexOf('(');
    String name = call.substring(0, open);
    String inside = call.substring(open + 1, call.length() - 1);
    if (name.equals("text")) {
      return typed(inside);
    }
    int[] args = inside.isEmpty() ? new int[0] : Arrays.stream(inside.split(",")).mapToInt(Session::number).toArray();
    if (name.equals("bytes")) {
      return typed(Character.toString((char) args[1]).repeat(args[0]));
    }
    return name.equals("fill") ? filled(args) : ask(name, args);
  }

  private long typed(String text) {
    long answer = 0;
    for (char c : text.toCharArray()) {
      answer = ask("type", c);
    }
    return answer;
  }

  private long filled(int[] args) {
    long answer = ask("sheet", args[0], args[1], args.length - 2);
    for (int i = 0; i < args.length - 2; i++) {
      ask("put", args[0], args[1], i, args[i + 2]);
    }
    return answer;
  }

  long ask(String name, int... args) {
    calls++;
    if (calls > MOST_CALLS) {
      throw new IllegalStateException("a test makes more calls of one object than are promised");
    }
    try {
      Object[] values = Arrays.stream(args).boxed().toArray();
      return ((Number) FACE.get(name).invoke(x, values)).longValue();
    } catch (IllegalAccessException | InvocationTargetException failed) {
      throw new IllegalStateException(name + Arrays.toString(args) + ": " + failed, failed);
    }
  }

  /** All that can be asked of the object but count(8), as one text. The object is spent behind it. */
  String seenWhole() {
    StringBuilder all = new StringBuilder();
    for (int what = 0; what < 8; what++) {
      all.append(' ').append(ask("count", what));
    }
    all.append(" fault ").append(ask("fault")).append(" digest ").append(ask("digest"));
    tellYears(all);
    tellClaimsAndSightings(all);
    for (int s = 0; s < 4; s++) {
      tellSheet(all, s);
    }
    tellTraits(all);
    all.append(" wipe ").append(ask("wipe"));
    return all.toString();
  }

  private void tellYears(StringBuilder all) {
    long years = ask("count", 0);
    all.append(" years");
    for (int year = 0; year < years; year++) {
      for (int hull = 0; hull < 6; hull++) {
        all.append(' ').append(ask("borne", hull, year));
      }
    }
  }

  private void tellClaimsAndSightings(StringBuilder all) {
    all.append(" owed");
    for (int hull = 0; hull < 6; hull++) {
      for (int law = 0; law < 3; law++) {
        all.append(' ').append(ask("owed", hull, law));
      }
    }
    all.append(" could");
    for (int hull = -1; hull < 6; hull++) {
      all.append(' ').append(ask("could", hull));
    }
    all.append(" false ").append(ask("isFalse"));
  }

  private void tellSheet(StringBuilder all, int s) {
    all.append(" sheet ").append(s);
    for (int form = 0; form < 3; form++) {
      ask("get", s, form, -1);
      boolean ofThisForm = ask("count", 8) == 2;
      if (ofThisForm) {
        all.append(" form ").append(form);
      }
      boolean more = ofThisForm;
      for (int i = 0; more && i < 48; i++) {
        long item = ask("get", s, form, i);
        all.append(' ').append(item);
        more = item != Integer.MIN_VALUE;
      }
    }
    all.append(" of ").append(ask("lose", s));
  }

  private void tellTraits(StringBuilder all) {
    all.append(" traits");
    for (int k = 0; k < 6; k++) {
      for (int what = 0; what < 2; what++) {
        all.append(' ').append(ask("hull", k, what, 1));
      }
      for (int what = 0; what < 3; what++) {
        all.append(' ').append(ask("name", k, what, 1));
      }
    }
  }
}
