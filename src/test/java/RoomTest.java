import java.lang.management.ManagementFactory;
import java.lang.reflect.Method;
import java.lang.reflect.Modifier;

/** Calls make no objects, so that a run keeps to its one room; and no call throws, whatever it is given. */
public final class RoomTest {
  private static final int[] NUMBERS = {Integer.MIN_VALUE, -1000, -2, -1, 0, 1, 2, 3, 4, 5, 6, 11, 12, 47, 48, 90, 999,
      1000, Integer.MAX_VALUE};

  public static void main(String[] args) throws Exception {
    callsMakeNothing();
    nothingThrows(new SailAsAnother());
    nothingThrows(full());
    Check.end();
  }

  private static SailAsAnother full() {
    SailAsAnother x = new SailAsAnother();
    Check.type(x, "012345;543210;120354;123450;103254;012345;543210;120354;123450;103254;012345;543210");
    for (int k = 0; k < 12; k++) {
      x.claim(k % 6, k, 99);
    }
    for (int k = 0; k < 8; k++) {
      x.seen(k % 6, 0, k % 6 + 1);
    }
    for (int k = 0; k < 6; k++) {
      x.name(k, 0, 1);
    }
    for (int s = 0; s < 4; s++) {
      x.sheet(s, s == 3 ? 0 : s, 48);
    }
    return x;
  }

  private static long allCalls(SailAsAnother x) {
    long sum = x.digest() + x.sheet(0, 0, 48) + x.put(0, 0, 5, 5) + x.get(0, 0, 5) + x.copy(0, 0, 0, 1, 20);
    sum += x.write(0, 0) + x.read(0) + x.fault() + x.lightest(0) + x.hull(0, 0, 1) + x.name(0, 0, 1) + x.fits(0, 0);
    sum += x.claim(0, 0, 1) + x.seen(0, 0, 1) + x.borne(0, 0) + x.on(0, 0, 999) + x.returns(0, NONE) + x.lose(0);
    return sum + x.wipe() + x.type(48) + x.forget(0) + x.forget(1);
  }

  private static final int NONE = -1;

  private static void callsMakeNothing() {
    com.sun.management.ThreadMXBean threads = (com.sun.management.ThreadMXBean) ManagementFactory.getThreadMXBean();
    long thread = Thread.currentThread().getId();
    SailAsAnother[] used = new SailAsAnother[200];
    for (int k = 0; k < used.length; k++) {
      used[k] = full();
    }
    long sum = allCalls(full());
    threads.getThreadAllocatedBytes(thread);
    long before = threads.getThreadAllocatedBytes(thread);
    for (SailAsAnother x : used) {
      sum += allCalls(x);
    }
    long made = threads.getThreadAllocatedBytes(thread) - before;
    Check.due("bytes made by " + used.length + " rounds of calls: " + made + " (sum " + sum + ")", made < 4096);
  }

  private static void nothingThrows(SailAsAnother x) throws Exception {
    for (Method m : SailAsAnother.class.getDeclaredMethods()) {
      if (Modifier.isPublic(m.getModifiers())) {
        Check.due(m.getName() + " never throws", endsWell(x, m));
      }
    }
  }

  /** Every list of numbers for up to three parameters, and a walk through the lists for more. */
  private static boolean endsWell(SailAsAnother x, Method m) throws Exception {
    int parameters = m.getParameterCount();
    int lists = 1;
    for (int k = 0; k < parameters; k++) {
      lists *= NUMBERS.length;
    }
    int step = parameters <= 3 ? 1 : 37;
    for (int list = 0; list < lists; list += step) {
      Object[] values = new Object[parameters];
      int rest = list;
      for (int k = 0; k < parameters; k++) {
        values[k] = NUMBERS[rest % NUMBERS.length];
        rest /= NUMBERS.length;
      }
      try {
        m.invoke(x, values);
      } catch (java.lang.reflect.InvocationTargetException thrown) {
        System.out.println(m.getName() + java.util.Arrays.toString(values) + " threw " + thrown.getCause());
        return false;
      }
    }
    return true;
  }
}
