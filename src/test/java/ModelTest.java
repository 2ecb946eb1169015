import java.lang.reflect.Method;
import java.lang.reflect.Modifier;
import java.util.ArrayList;
import java.util.Comparator;
import java.util.List;
import java.util.Random;

/** Runs of calls by fixed seeds: the class must answer each one as PlainModel does. */
public final class ModelTest {
  private static final int RUNS = 400;
  private static final int CALLS = 512;
  /** What each parameter of each call is: see value(). Calls that are told twice come more often. */
  private static final String[] PLANS = {
      "hull hxt", "hull hxt", "name hqt", "name hqt", "fits hh", "type b", "type b", "wipe", "fault", "read s", "read s",
      "borne hy", "purse hy", "debt hyx", "been hy", "home h", "other hh", "sound o", "sound o", "chance hhx",
      "chance hhx", "ahead hx", "best o", "rather y", "on yhm", "returns yo", "lot zh", "claim hca", "claim hca",
      "owed hq", "lightest h", "disputed", "seen hxt", "seen hxt", "forget x", "could o", "could o", "isFalse",
      "sheet sqn", "lose s", "put sqiz", "put sqit", "get sqi", "get sqi", "copy sisin", "copy sisii", "write ys",
      "count w", "count w", "digest"};

  private final Random random;
  private final SailAsAnother x = new SailAsAnother();
  private final PlainModel model = new PlainModel();
  private final StringBuilder history = new StringBuilder();
  private int calls = 0;

  private ModelTest(long seed) {
    random = new Random(seed);
  }

  public static void main(String[] args) throws Exception {
    List<Method> face = new ArrayList<>();
    for (Method m : SailAsAnother.class.getDeclaredMethods()) {
      if (Modifier.isPublic(m.getModifiers())) {
        face.add(m);
      }
    }
    face.sort(Comparator.comparing(Method::getName));
    for (Method m : face) {
      boolean planned = false;
      for (String plan : PLANS) {
        planned = planned || plan.split(" ")[0].equals(m.getName());
      }
      Check.due(m.getName() + " is in the plans", planned);
    }
    for (int run = 0; run < RUNS; run++) {
      if (!new ModelTest(run).run()) {
        break;
      }
    }
    Check.end();
  }

  private boolean run() throws Exception {
    // Some runs have ships that nearly always fit, else SOUND rows would be rare.
    if (random.nextInt(2) == 0) {
      for (int k = 0; k < 6; k++) {
        if (!call("hull", k, 0, 3 + random.nextInt(7)) || !call("name", k, 1, random.nextInt(7))) {
          return false;
        }
      }
    }
    while (calls < CALLS) {
      int kind = random.nextInt(40);
      boolean well = kind == 0 ? typeYear() : kind == 1 ? fillSheet() : kind == 2 ? wipeAndType() : callByPlan();
      if (!well) {
        return false;
      }
    }
    return true;
  }

  private int[] row() {
    List<Integer> left = new ArrayList<>(List.of(0, 1, 2, 3, 4, 5));
    int[] row = new int[6];
    for (int hull = 0; hull < 6; hull++) {
      row[hull] = left.remove(random.nextInt(left.size()));
    }
    return row;
  }

  private boolean typeYear() throws Exception {
    boolean well = model.count(1) == 0 || call("type", (int) ';');
    for (int name : row()) {
      well = well && call("type", '0' + name);
    }
    return well;
  }

  private boolean wipeAndType() throws Exception {
    return call("wipe") && typeYear() && typeYear() && fillSheet();
  }

  private boolean fillSheet() throws Exception {
    int s = random.nextInt(4);
    int form = random.nextInt(3);
    boolean well = call("sheet", s, form, 6 + random.nextInt(3));
    int[] row = row();
    for (int hull = 0; hull < 6; hull++) {
      well = well && call("put", s, form, hull, row[hull]);
    }
    return well && call("read", s);
  }

  private boolean callByPlan() throws Exception {
    String[] plan = PLANS[random.nextInt(PLANS.length)].split(" ");
    // A stray byte or a wipe spoils THE BOOK for long, so they are rare.
    if ((plan[0].equals("type") || plan[0].equals("wipe")) && random.nextInt(12) != 0) {
      return true;
    }
    String kinds = plan.length == 1 ? "" : plan[1];
    int[] args = new int[kinds.length()];
    for (int k = 0; k < args.length; k++) {
      args[k] = value(kinds.charAt(k));
    }
    return call(plan[0], args);
  }

  private int value(char kind) {
    int[] extremes = {Integer.MIN_VALUE, Integer.MAX_VALUE, -1, -2, 6, 12, 13, 48, 49, 256, 1000, random.nextInt()};
    if (random.nextInt(50) == 0) {
      return extremes[random.nextInt(extremes.length)];
    }
    switch (kind) {
      case 'h':
        return random.nextInt(20) == 0 ? 6 : random.nextInt(6);
      case 'o':
        return random.nextInt(7) - 1;
      case 'x':
        return random.nextInt(20) == 0 ? 2 : random.nextInt(2);
      case 'q':
        return random.nextInt(20) == 0 ? 3 : random.nextInt(3);
      case 't':
        return random.nextInt(10);
      case 'y':
        return random.nextInt(model.count(0) + 2);
      case 'c':
        return random.nextInt(random.nextInt(12) + 1);
      case 'a':
        return random.nextInt(101);
      case 'm':
        return random.nextInt(random.nextInt(1001) + 1);
      case 's':
        return random.nextInt(20) == 0 ? 4 : random.nextInt(4);
      case 'i':
        return random.nextInt(9) - (random.nextInt(10) == 0 ? 3 : 0);
      case 'n':
        return random.nextInt(4) == 0 ? random.nextInt(52) - 2 : random.nextInt(9);
      case 'b':
        return random.nextInt(3) == 0 ? random.nextInt(258) - 1 : ";012345;".charAt(random.nextInt(8));
      case 'w':
        return random.nextInt(10);
      default:
        return random.nextInt();
    }
  }

  /** Whether both answer alike; a run ends at the first difference, since all behind it may differ. */
  private boolean call(String name, int... args) throws Exception {
    Class<?>[] types = new Class<?>[args.length];
    Object[] values = new Object[args.length];
    for (int k = 0; k < args.length; k++) {
      types[k] = int.class;
      values[k] = args[k];
    }
    history.append(name).append(java.util.Arrays.toString(args));
    long want = ((Number) PlainModel.class.getDeclaredMethod(name, types).invoke(model, values)).longValue();
    long got = ((Number) SailAsAnother.class.getDeclaredMethod(name, types).invoke(x, values)).longValue();
    calls++;
    history.append("=").append(got).append(' ');
    if (got != want) {
      System.out.println(history);
    }
    Check.due(name + java.util.Arrays.toString(args), got, want);
    return got == want;
  }
}
