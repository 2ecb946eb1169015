/** Promises 1 to 9: a new object, hull, name, fits, type, wipe, fault, read, borne. */
public final class HullsNamesBookTest {
  private static final int BAD = -2, NOT = -3, FULL = -4, NONE = -1, NULL = -11;

  public static void main(String[] args) {
    newObject();
    hulls();
    names();
    fitting();
    typing();
    wiping();
    faults();
    faultsOfLongBooks();
    emptyWhileFaulty();
    reading();
    readingRefused();
    readingFull();
    bearing();
    Check.end();
  }

  private static void newObject() {
    SailAsAnother x = new SailAsAnother();
    for (int what = 0; what <= 8; what++) {
      Check.due("1 count(" + what + ")", x.count(what), what == 4 ? 24 : 0);
    }
    Check.due("1 fault()", x.fault(), NONE);
    for (int s = 0; s < 4; s++) {
      Check.due("1 lose(" + s + ")", x.lose(s), NULL);
    }
    for (int k = 0; k < 6; k++) {
      Check.due("1 SPEED " + k, x.hull(k, 0, 9), k + 1);
      Check.due("1 HOLD " + k, x.hull(k, 1, 9), 5);
      Check.due("1 WAY " + k, x.name(k, 0, 9), 3);
      Check.due("1 LOAD " + k, x.name(k, 1, 9), 5);
      Check.due("1 FEE " + k, x.name(k, 2, 9), k + 1);
    }
    SailAsAnother y = new SailAsAnother();
    Check.due("1 objects share nothing", y.hull(0, 0, 1), 1);
  }

  private static void hulls() {
    SailAsAnother x = new SailAsAnother();
    Check.due("2 hull(5,0,9)", x.hull(5, 0, 9), 6);
    Check.due("2 hull(5,0,1)", x.hull(5, 0, 1), 9);
    Check.due("2 hull(5,0,2)", x.hull(5, 0, 2), 1);
    Check.due("2 hull(5,1,0)", x.hull(5, 1, 0), 5);
    Check.due("2 hull(5,1,9)", x.hull(5, 1, 9), 0);
    int[][] wrong = {{-1, 0, 3}, {6, 0, 3}, {5, -1, 3}, {5, 2, 3}, {5, 0, 0}, {5, 0, 10}, {5, 1, -1}, {5, 1, 10},
        {5, 0, Integer.MIN_VALUE}, {5, 1, Integer.MAX_VALUE}, {Integer.MIN_VALUE, 0, 3}, {5, Integer.MAX_VALUE, 3}};
    for (int[] w : wrong) {
      Check.due("2 hull(" + w[0] + "," + w[1] + "," + w[2] + ")", x.hull(w[0], w[1], w[2]), BAD);
    }
    Check.due("2 SPEED unchanged", x.hull(5, 0, 2), 2);
    Check.due("2 HOLD unchanged", x.hull(5, 1, 9), 9);
    Check.due("2 other HULL unchanged", x.hull(4, 0, 5), 5);
  }

  private static void names() {
    SailAsAnother x = new SailAsAnother();
    Check.due("3 name(2,0,1)", x.name(2, 0, 1), 3);
    Check.due("3 name(2,0,9)", x.name(2, 0, 9), 1);
    Check.due("3 name(2,1,0)", x.name(2, 1, 0), 5);
    Check.due("3 name(2,1,9)", x.name(2, 1, 9), 0);
    Check.due("3 name(2,2,0)", x.name(2, 2, 0), 3);
    Check.due("3 name(2,2,9)", x.name(2, 2, 9), 0);
    int[][] wrong = {{-1, 0, 3}, {6, 0, 3}, {2, -1, 3}, {2, 3, 3}, {2, 0, 0}, {2, 0, 10}, {2, 1, -1}, {2, 1, 10},
        {2, 2, -1}, {2, 2, 10}, {Integer.MAX_VALUE, 2, 3}, {2, Integer.MIN_VALUE, 3}};
    for (int[] w : wrong) {
      Check.due("3 name(" + w[0] + "," + w[1] + "," + w[2] + ")", x.name(w[0], w[1], w[2]), BAD);
    }
    for (int what = 0; what < 3; what++) {
      Check.due("3 unchanged " + what, x.name(2, what, 9), 9);
    }
  }

  private static void fitting() {
    SailAsAnother x = new SailAsAnother();
    Check.due("4 too slow", x.fits(1, 0), 0);
    Check.due("4 just fast enough", x.fits(2, 0), 1);
    x.hull(2, 1, 4);
    Check.due("4 hold too small", x.fits(2, 0), 0);
    x.name(0, 1, 4);
    Check.due("4 hold just enough", x.fits(2, 0), 1);
    Check.due("4 by the NAME", x.fits(2, 1), 0);
    Check.due("4 fits(-1,0)", x.fits(-1, 0), BAD);
    Check.due("4 fits(6,0)", x.fits(6, 0), BAD);
    Check.due("4 fits(0,-1)", x.fits(0, -1), BAD);
    Check.due("4 fits(0,6)", x.fits(0, 6), BAD);
  }

  private static void typing() {
    SailAsAnother x = new SailAsAnother();
    Check.due("5 type(-1)", x.type(-1), BAD);
    Check.due("5 type(256)", x.type(256), BAD);
    Check.due("5 nothing came", x.count(1), 0);
    for (int k = 1; k <= 90; k++) {
      Check.due("5 byte " + k, x.type(k % 2 == 0 ? 0 : 255), k);
    }
    Check.due("5 type(48), full", x.type(48), FULL);
    Check.due("5 type(256), full", x.type(256), BAD);
    Check.due("5 still 90", x.count(1), 90);
  }

  private static void wiping() {
    SailAsAnother x = new SailAsAnother();
    Check.due("6 wipe() of an empty one", x.wipe(), 0);
    Check.type(x, "012345;5");
    Check.due("6 wipe()", x.wipe(), 8);
    Check.due("6 bytes", x.count(1), 0);
    Check.due("6 fault", x.fault(), NONE);
    Check.type(x, "012345");
    Check.due("6 years", x.count(0), 1);
    Check.due("6 wipe() again", x.wipe(), 6);
    Check.due("6 no years", x.count(0), 0);
  }

  private static void faultOf(String text, int want) {
    SailAsAnother x = new SailAsAnother();
    Check.type(x, text);
    Check.due("7 fault() of " + text, x.fault(), want);
    int years = want == NONE ? (text.length() + 1) / 7 : 0;
    Check.due("7 YEARS of " + text, x.count(0), years);
  }

  private static void faults() {
    faultOf("", NONE);
    faultOf("0", 1);
    faultOf("01234", 5);
    faultOf("012345", NONE);
    faultOf("543210;012345", NONE);
    faultOf("012345;", 7);
    faultOf("012345;543", 10);
    faultOf("6", 0);
    faultOf("/", 0);
    faultOf(";", 0);
    faultOf("012346", 5);
    faultOf("0123;5", 4);
    faultOf("00", 1);
    faultOf("010345", 2);
    faultOf("0123455", 6);
    faultOf("0123450", 6);
    faultOf("012345:012345", 6);
    faultOf("012345;;", 7);
    faultOf("012345; 12345", 7);
    faultOf("012345;012344", 12);
    faultOf("012345;0123456", 13);
    faultOf("01x345;6", 2);
    faultOf("\u00ff", 0);
    faultOf("\u00b0", 0);
  }

  private static void faultsOfLongBooks() {
    StringBuilder twelve = new StringBuilder("012345");
    for (int year = 1; year < 12; year++) {
      twelve.append(";543210");
    }
    faultOf(twelve.toString(), NONE);
    faultOf(twelve + ";", 84);
    faultOf(twelve + ";0", 84);
    faultOf(twelve + ";x", 84);
    faultOf(twelve + ";012345", 84);
    faultOf(twelve + "x", 83);
    faultOf(twelve + "xxxxxxx", 83);
    twelve.setCharAt(70, '9');
    faultOf(twelve + ";012345", 70);
  }

  private static void emptyWhileFaulty() {
    SailAsAnother x = new SailAsAnother();
    Check.type(x, "012345;0");
    Check.due("7 borne", x.borne(0, 0), BAD);
    Check.due("7 purse", x.purse(5, 1), BAD);
    Check.due("7 purse behind none", x.purse(5, 0), 0);
    Check.due("7 home", x.home(0), NONE);
    Check.due("7 purses", x.count(5), 0);
    Check.due("7 bytes are there", x.count(1), 8);
    Check.type(x, "12345");
    Check.due("7 mended by going on", x.fault(), NONE);
    Check.due("7 both years", x.count(0), 2);
  }

  private static void reading() {
    SailAsAnother x = new SailAsAnother();
    Check.fill(x, 0, 0, 5, 4, 3, 2, 1, 0);
    Check.fill(x, 3, 2, 1, 0, 3, 2, 5, 4, 99, -7);
    Check.due("8 read(0)", x.read(0), 6);
    Check.due("8 read(3)", x.read(3), 13);
    Check.due("8 fault", x.fault(), NONE);
    Check.due("8 borne(0,0)", x.borne(0, 0), 5);
    Check.due("8 borne(5,0)", x.borne(5, 0), 0);
    Check.due("8 borne(0,1)", x.borne(0, 1), 1);
    Check.due("8 borne(5,1)", x.borne(5, 1), 4);
    x.wipe();
    x.type('x');
    Check.due("8 read(0) behind a fault", x.read(0), 8);
    Check.due("8 the fault stays", x.fault(), 0);
  }

  private static void readingRefused() {
    SailAsAnother x = new SailAsAnother();
    Check.due("8 read(-1)", x.read(-1), BAD);
    Check.due("8 read(4)", x.read(4), BAD);
    Check.due("8 count(8) before any", x.count(8), 0);
    Check.due("8 read of a LOST one", x.read(1), NULL);
    Check.due("8 count(8)", x.count(8), 1);
    Check.fill(x, 0, 1, 0, 1, 2, 3, 4);
    Check.due("8 fewer items", x.read(0), NOT);
    Check.fill(x, 0, 1, 0, 1, 2, 3, 4, 4);
    Check.due("8 a NAME twice", x.read(0), NOT);
    Check.fill(x, 0, 1, 1, 1, 2, 3, 4, 5);
    Check.due("8 NAME 0 lacks", x.read(0), NOT);
    Check.fill(x, 0, 1, 0, 1, 2, 3, 4, 6);
    Check.due("8 no NAME: 6", x.read(0), NOT);
    Check.fill(x, 0, 1, 0, 1, 2, 3, 4, -1);
    Check.due("8 no NAME: -1", x.read(0), NOT);
    Check.fill(x, 0, 2, 0, 1, 2, 3, 4, 37);
    Check.due("8 no NAME: 37, which shifts as 5 does", x.read(0), NOT);
    Check.fill(x, 0, 1, 6, 0, 1, 2, 3, 4, 5);
    Check.due("8 the first six count", x.read(0), NOT);
    Check.due("8 nothing came", x.count(1), 0);
    Check.due("8 NOT is no FINDING", x.count(8), 1);
  }

  private static void readingFull() {
    SailAsAnother x = new SailAsAnother();
    for (int k = 0; k < 83; k++) {
      x.type('a');
    }
    Check.fill(x, 0, 0, 0, 1, 2, 3, 4, 5);
    Check.due("8 just room", x.read(0), 90);
    Check.due("8 full", x.read(0), FULL);
    Check.fill(x, 0, 0, 0, 1, 2, 3, 4, 4);
    Check.due("8 NOT ahead of FULL", x.read(0), NOT);
    Check.due("8 NULL ahead of FULL", x.read(1), NULL);
    x.wipe();
    for (int k = 0; k < 84; k++) {
      x.type('a');
    }
    Check.fill(x, 0, 0, 0, 1, 2, 3, 4, 5);
    Check.due("8 six bytes of room are one too few", x.read(0), FULL);
    Check.due("8 nothing came", x.count(1), 84);
  }

  private static void bearing() {
    SailAsAnother x = new SailAsAnother();
    Check.due("9 no YEAR", x.borne(0, 0), BAD);
    Check.type(x, "301254;012345");
    int[] first = {3, 0, 1, 2, 5, 4};
    for (int hull = 0; hull < 6; hull++) {
      Check.due("9 borne(" + hull + ",0)", x.borne(hull, 0), first[hull]);
      Check.due("9 borne(" + hull + ",1)", x.borne(hull, 1), hull);
    }
    Check.due("9 borne(-1,0)", x.borne(-1, 0), BAD);
    Check.due("9 borne(6,0)", x.borne(6, 0), BAD);
    Check.due("9 borne(0,-1)", x.borne(0, -1), BAD);
    Check.due("9 borne(0,2)", x.borne(0, 2), BAD);
  }
}
