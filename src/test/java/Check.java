/** Counts answers that are not the ones that are due, and ends a test by them. */
final class Check {
  private static int asked = 0;
  private static int wrong = 0;

  private Check() {
  }

  static void due(String call, long got, long want) {
    asked++;
    if (got != want) {
      wrong++;
      if (wrong <= 40) {
        System.out.println(call + " answered " + got + ", due is " + want);
      }
    }
  }

  static void due(String what, boolean holds) {
    due(what, holds ? 1 : 0, 1);
  }

  static void type(SailAsAnother x, String text) {
    for (int k = 0; k < text.length(); k++) {
      x.type(text.charAt(k));
    }
  }

  /** A SHEET of a FORM with just these items. */
  static void fill(SailAsAnother x, int s, int form, int... items) {
    x.sheet(s, form, items.length);
    for (int i = 0; i < items.length; i++) {
      x.put(s, form, i, items[i]);
    }
  }

  static void end() {
    System.out.println(asked + " answers, " + wrong + " not as due");
    if (wrong != 0 || asked == 0) {
      System.exit(1);
    }
  }
}
