/** Promises 31 to 36: sheet, lose, put, get, copy, write. */
public final class SheetsTest {
  private static final int BAD = -2, NULL = -11, INDEX = -12, CAST = -13, STORE = -14, SIZE = -15;
  private static final int LEAST = Integer.MIN_VALUE;

  public static void main(String[] args) {
    making();
    losing();
    putting();
    puttingRefused();
    gettingRefused();
    copying();
    copyingRefused();
    writing();
    writingRefused();
    Check.end();
  }

  private static void items(String label, SailAsAnother x, int s, int form, int... want) {
    for (int i = 0; i < want.length; i++) {
      Check.due(label + ", item " + i, x.get(s, form, i), want[i]);
    }
  }

  /** A FINDING answers -10 less its number and is the latest one. */
  private static void finding(String label, SailAsAnother x, int got, int want) {
    Check.due(label, got, want);
    Check.due(label + ", count(8)", x.count(8), -10 - want);
  }

  private static void making() {
    SailAsAnother x = new SailAsAnother();
    Check.due("31 sheet(0,0,48)", x.sheet(0, 0, 48), 48);
    Check.due("31 sheet(3,2,0)", x.sheet(3, 2, 0), 0);
    Check.due("31 item 47 is 0", x.get(0, 0, 47), 0);
    x.put(0, 0, 47, 5);
    Check.due("31 a new row", x.sheet(0, 0, 48), 48);
    Check.due("31 is 0 again", x.get(0, 0, 47), 0);
    x.put(0, 0, 3, 5);
    int[][] wrong = {{-1, 0, 1}, {4, 0, 1}, {0, -1, 1}, {0, 3, 1}, {0, 0, 49}, {0, 0, Integer.MAX_VALUE}, {4, 0, -1},
        {0, 3, -1}};
    for (int[] w : wrong) {
      Check.due("31 sheet(" + w[0] + "," + w[1] + "," + w[2] + ")", x.sheet(w[0], w[1], w[2]), BAD);
    }
    Check.due("31 no FINDING", x.count(8), 0);
    finding("31 SIZE", x, x.sheet(0, 1, -1), SIZE);
    finding("31 SIZE, least", x, x.sheet(0, 1, LEAST), SIZE);
    Check.due("31 unchanged", x.get(0, 0, 3), 5);
    finding("31 SIZE of a LOST one", x, x.sheet(1, 1, -1), SIZE);
    Check.due("31 it stays LOST", x.lose(1), NULL);
  }

  private static void losing() {
    SailAsAnother x = new SailAsAnother();
    x.sheet(2, 1, 7);
    Check.due("32 lose(2)", x.lose(2), 7);
    finding("32 lose(2) again", x, x.lose(2), NULL);
    x.sheet(2, 1, 0);
    Check.due("32 an empty one is not LOST", x.lose(2), 0);
    Check.due("32 lose(-1)", x.lose(-1), BAD);
    Check.due("32 lose(4)", x.lose(4), BAD);
  }

  private static void putting() {
    SailAsAnother x = new SailAsAnother();
    int[] put = {127, 128, 255, 256, -129, 32767, 32768, 65535, 65536, -32769, Integer.MAX_VALUE, LEAST};
    int[] bytes = {127, -128, -1, 0, 127, -1, 0, -1, 0, -1, -1, 0};
    int[] shorts = {127, 128, 255, 256, -129, 32767, -32768, -1, 0, 32767, -1, 0};
    int[][] due = {bytes, shorts, put};
    for (int form = 0; form < 3; form++) {
      x.sheet(form, form, put.length);
      for (int i = 0; i < put.length; i++) {
        Check.due("33 put", x.put(form, form, i, put[i]), 1);
      }
      items("33 FORM " + form, x, form, form, due[form]);
    }
    Check.due("33 no FINDING", x.count(8), 0);
  }

  private static void puttingRefused() {
    SailAsAnother x = new SailAsAnother();
    x.sheet(1, 1, 3);
    x.put(1, 1, 2, 77);
    int[][] wrong = {{-1, 0, 0}, {4, 0, 0}, {1, -1, 0}, {1, 3, 0}, {0, 3, 0}};
    for (int[] w : wrong) {
      Check.due("33 put(" + w[0] + "," + w[1] + "," + w[2] + ",1)", x.put(w[0], w[1], w[2], 1), BAD);
    }
    Check.due("33 no FINDING", x.count(8), 0);
    finding("33 NULL", x, x.put(0, 0, 99, 1), NULL);
    finding("33 CAST ahead of INDEX", x, x.put(1, 0, 3, 1), CAST);
    finding("33 CAST", x, x.put(1, 2, 0, 1), CAST);
    finding("33 INDEX 3", x, x.put(1, 1, 3, 1), INDEX);
    finding("33 INDEX -1", x, x.put(1, 1, -1, 1), INDEX);
    finding("33 INDEX least", x, x.put(1, 1, LEAST, 1), INDEX);
    items("33 unchanged", x, 1, 1, 0, 0, 77);
    x.sheet(1, 1, 2);
    finding("33 INDEX behind a smaller row", x, x.put(1, 1, 2, 1), INDEX);
    x.lose(1);
    finding("33 NULL when LOST again", x, x.put(1, 1, 0, 1), NULL);
  }

  private static void gettingRefused() {
    SailAsAnother x = new SailAsAnother();
    x.sheet(1, 1, 3);
    int[][] wrong = {{-1, 0, 0}, {4, 0, 0}, {1, -1, 0}, {1, 3, 0}, {0, 3, 0}};
    for (int[] w : wrong) {
      Check.due("34 get(" + w[0] + "," + w[1] + "," + w[2] + ")", x.get(w[0], w[1], w[2]), LEAST);
    }
    Check.due("34 BAD is no FINDING", x.count(8), 0);
    Check.due("34 NULL", x.get(0, 0, 0), LEAST);
    Check.due("34 NULL tells", x.count(8), 1);
    Check.due("34 CAST ahead of INDEX", x.get(1, 0, 3), LEAST);
    Check.due("34 CAST tells", x.count(8), 3);
    Check.due("34 INDEX", x.get(1, 1, 3), LEAST);
    Check.due("34 INDEX tells", x.count(8), 2);
    Check.due("34 INDEX -1", x.get(1, 1, -1), LEAST);
    Check.due("34 BAD behind it", x.get(4, 1, -1), LEAST);
    Check.due("34 INDEX is the latest still", x.count(8), 2);
    Check.due("34 an item", x.get(1, 1, 2), 0);
    Check.due("34 so it is, too", x.count(8), 2);
  }

  private static void copying() {
    SailAsAnother x = new SailAsAnother();
    Check.fill(x, 0, 1, 1, 2, 3, 4, 5);
    x.sheet(1, 1, 4);
    Check.due("35 copy", x.copy(0, 1, 1, 2, 2), 1);
    items("35 target", x, 1, 1, 0, 0, 2, 3);
    items("35 source", x, 0, 1, 1, 2, 3, 4, 5);
    Check.due("35 to later ones of itself", x.copy(0, 0, 0, 1, 4), 1);
    items("35 as they were", x, 0, 1, 1, 1, 2, 3, 4);
    Check.due("35 to earlier ones of itself", x.copy(0, 2, 0, 0, 3), 1);
    items("35 as they were, too", x, 0, 1, 2, 3, 4, 3, 4);
    Check.due("35 all", x.copy(1, 0, 0, 1, 4), 1);
    items("35 all came", x, 0, 1, 2, 0, 0, 2, 3);
    Check.due("35 none, at both ends", x.copy(0, 5, 1, 4, 0), 1);
    Check.due("35 no FINDING", x.count(8), 0);
  }

  private static void copyingRefused() {
    SailAsAnother x = new SailAsAnother();
    Check.fill(x, 0, 1, 1, 2, 3);
    x.sheet(1, 1, 5);
    x.sheet(2, 2, 5);
    int[][] bad = {{-1, 0, 1, 0, 1}, {4, 0, 1, 0, 1}, {0, 0, -1, 0, 1}, {0, 0, 4, 0, 1}, {3, 0, 4, 0, 1}};
    for (int[] w : bad) {
      Check.due("35 BAD " + w[0] + " " + w[2], x.copy(w[0], w[1], w[2], w[3], w[4]), BAD);
    }
    Check.due("35 no FINDING", x.count(8), 0);
    finding("35 NULL: s", x, x.copy(3, 0, 1, 0, 1), NULL);
    finding("35 STORE", x, x.copy(0, 0, 2, 0, 1), STORE);
    finding("35 NULL: t", x, x.copy(0, 0, 3, 0, 1), NULL);
    finding("35 STORE of none", x, x.copy(0, 0, 2, 0, 0), STORE);
    finding("35 NULL of both", x, x.copy(3, 0, 3, 0, 0), NULL);
    finding("35 STORE ahead of INDEX", x, x.copy(0, 9, 2, 9, -1), STORE);
    int most = Integer.MAX_VALUE;
    int[][] index = {{-1, 0, 1}, {0, -1, 1}, {0, 0, -1}, {0, 0, 4}, {1, 0, 3}, {3, 0, 1}, {4, 0, 0}, {0, 6, 0}, {0, 3, 3},
        {0, 5, 1}, {most, 0, 1}, {0, most, 1}, {0, 0, most}, {1, 1, most}, {most, most, most}, {LEAST, 0, 0},
        {0, LEAST, 0}, {0, 0, LEAST}, {1, 0, LEAST}};
    for (int[] w : index) {
      x.lose(3);
      finding("35 INDEX " + w[0] + " " + w[1] + " " + w[2], x, x.copy(0, w[0], 1, w[1], w[2]), INDEX);
    }
    items("35 unchanged", x, 1, 1, 0, 0, 0, 0, 0);
  }

  private static void writing() {
    SailAsAnother x = new SailAsAnother();
    Check.type(x, "012345;301254");
    for (int form = 0; form < 3; form++) {
      Check.fill(x, form, form, 9, 9, 9, 9, 9, 9, 9, 9);
      Check.due("36 six", x.write(1, form), 6);
      items("36 FORM " + form, x, form, form, 3, 0, 1, 2, 5, 4, 9, 9);
    }
    Check.fill(x, 3, 0, 9, 9, 9);
    Check.due("36 three", x.write(1, 3), 3);
    items("36 three", x, 3, 0, 3, 0, 1);
    x.sheet(3, 0, 0);
    Check.due("36 none", x.write(1, 3), 0);
    x.sheet(3, 0, 6);
    Check.due("36 of YEAR 0", x.write(0, 3), 6);
    items("36 of YEAR 0", x, 3, 0, 0, 1, 2, 3, 4, 5);
    Check.due("36 it can be read", x.read(3), 20);
  }

  private static void writingRefused() {
    SailAsAnother x = new SailAsAnother();
    Check.due("36 BAD ahead of NULL", x.write(0, 0), BAD);
    Check.due("36 no FINDING", x.count(8), 0);
    Check.type(x, "012345");
    finding("36 NULL", x, x.write(0, 0), NULL);
    x.sheet(0, 0, 6);
    Check.due("36 write(-1,0)", x.write(-1, 0), BAD);
    Check.due("36 write(1,0)", x.write(1, 0), BAD);
    Check.due("36 write(0,-1)", x.write(0, -1), BAD);
    Check.due("36 write(0,4)", x.write(0, 4), BAD);
    items("36 unchanged", x, 0, 0, 0, 0, 0, 0, 0, 0);
  }
}
