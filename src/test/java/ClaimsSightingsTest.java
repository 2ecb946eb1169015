/** Promises 23 to 30: claim, owed, lightest, disputed, seen, forget, could, isFalse. */
public final class ClaimsSightingsTest {
  private static final int BAD = -2, FULL = -4, NONE = -1;

  public static void main(String[] args) {
    claiming();
    owing();
    lightest();
    disputes();
    seeing();
    forgetting();
    possibleRows();
    impossibleNames();
    Check.end();
  }

  private static void claiming() {
    SailAsAnother x = new SailAsAnother();
    int[][] wrong = {{-1, 0, 1}, {6, 0, 1}, {0, -1, 1}, {0, 12, 1}, {0, 0, 0}, {0, 0, 100}, {0, 0, -5}};
    for (int[] w : wrong) {
      Check.due("23 claim(" + w[0] + "," + w[1] + "," + w[2] + ")", x.claim(w[0], w[1], w[2]), BAD);
    }
    Check.due("23 none yet", x.count(2), 0);
    for (int k = 1; k <= 12; k++) {
      Check.due("23 claim " + k, x.claim(k % 6, k - 1, k == 1 ? 1 : 99), k);
    }
    Check.due("23 full", x.claim(0, 0, 1), FULL);
    Check.due("23 BAD ahead of FULL", x.claim(0, 0, 0), BAD);
    Check.due("23 twelve", x.count(2), 12);
  }

  /** HULL 0 sails as 1, 1 as 2, 2 as 0 in YEAR 0; all at home in YEAR 1. */
  private static SailAsAnother claimed() {
    SailAsAnother x = new SailAsAnother();
    Check.type(x, "120345;012345");
    x.claim(0, 0, 9);
    x.claim(1, 0, 4);
    x.claim(3, 0, 7);
    x.claim(0, 1, 1);
    x.claim(2, 2, 50);
    x.claim(2, 11, 50);
    return x;
  }

  private static void owing() {
    SailAsAnother x = claimed();
    int[][] due = {{10, 1, 5}, {4, 9, 7}, {0, 4, 2}, {7, 7, 7}, {0, 0, 0}, {0, 0, 0}};
    for (int hull = 0; hull < 6; hull++) {
      for (int law = 0; law < 3; law++) {
        Check.due("24 owed(" + hull + "," + law + ")", x.owed(hull, law), due[hull][law]);
      }
    }
    Check.type(x, ";201345");
    Check.due("24 a YEAR more, by hulls", x.owed(2, 0), 50);
    Check.due("24 a YEAR more, by names", x.owed(1, 1), 59);
    Check.due("24 a YEAR more, by halves", x.owed(2, 2), 27);
    x.type(';');
    Check.due("24 with a FAULT none counts", x.owed(0, 0), 0);
    Check.due("24 owed(-1,0)", x.owed(-1, 0), BAD);
    Check.due("24 owed(6,0)", x.owed(6, 0), BAD);
    Check.due("24 owed(0,-1)", x.owed(0, -1), BAD);
    Check.due("24 owed(0,3)", x.owed(0, 3), BAD);
  }

  private static void lightest() {
    SailAsAnother x = claimed();
    int[] due = {1, 0, 0, 0, 0, 0};
    for (int hull = 0; hull < 6; hull++) {
      Check.due("25 lightest(" + hull + ")", x.lightest(hull), due[hull]);
    }
    Check.due("25 lightest(-1)", x.lightest(-1), BAD);
    Check.due("25 lightest(6)", x.lightest(6), BAD);
    // HULL 0 did harm as NAME 1, and HULL 2 did harm as NAME 0: HULL 0 owes a cut half and a rest.
    SailAsAnother y = new SailAsAnother();
    Check.type(y, "102345;120345");
    y.claim(0, 0, 1);
    y.claim(2, 1, 1);
    Check.due("25 by hulls", y.owed(0, 0), 1);
    Check.due("25 by names", y.owed(0, 1), 1);
    Check.due("25 by halves", y.owed(0, 2), 1);
    Check.due("25 of like ones the least", y.lightest(0), 0);
    y.claim(0, 0, 3);
    y.claim(2, 1, 3);
    Check.due("25 by hulls again", y.owed(0, 0), 4);
    Check.due("25 by names again", y.owed(0, 1), 4);
    Check.due("25 halves: 0 and 1 cut, 1 and 2 the rest", y.owed(0, 2), 4);
    y.forget(0);
    y.claim(0, 0, 1);
    y.claim(0, 0, 1);
    y.claim(2, 1, 2);
    Check.due("25 halves are lighter", y.owed(0, 2), 1);
    Check.due("25 law 2", y.lightest(0), 2);
  }

  private static void disputes() {
    SailAsAnother x = claimed();
    Check.due("26 disputed()", x.disputed(), 2);
    Check.type(x, ";201345");
    Check.due("26 with a YEAR more", x.disputed(), 3);
    x.type('!');
    Check.due("26 with a FAULT", x.disputed(), 0);
    Check.due("26 of none", new SailAsAnother().disputed(), 0);
  }

  private static void seeing() {
    SailAsAnother x = new SailAsAnother();
    int[][] wrong = {{-1, 0, 1}, {6, 0, 1}, {0, -1, 1}, {0, 2, 1}, {0, 0, 0}, {0, 0, 10}, {0, 1, -1}, {0, 1, 10}};
    for (int[] w : wrong) {
      Check.due("27 seen(" + w[0] + "," + w[1] + "," + w[2] + ")", x.seen(w[0], w[1], w[2]), BAD);
    }
    Check.due("27 none yet", x.count(3), 0);
    int[][] well = {{0, 0, 1}, {5, 0, 9}, {0, 1, 0}, {5, 1, 9}, {1, 0, 2}, {2, 0, 2}, {3, 0, 2}, {4, 1, 2}};
    for (int k = 0; k < 8; k++) {
      Check.due("27 sighting " + k, x.seen(well[k][0], well[k][1], well[k][2]), k + 1);
    }
    Check.due("27 full", x.seen(0, 0, 1), FULL);
    Check.due("27 BAD ahead of FULL", x.seen(0, 0, 0), BAD);
    Check.due("27 eight", x.count(3), 8);
  }

  private static void forgetting() {
    SailAsAnother x = claimed();
    x.seen(0, 0, 3);
    Check.due("28 forget(-1)", x.forget(-1), BAD);
    Check.due("28 forget(2)", x.forget(2), BAD);
    Check.due("28 SIGHTINGS", x.forget(1), 1);
    Check.due("28 SIGHTINGS again", x.forget(1), 0);
    Check.due("28 CLAIMS stay", x.count(2), 6);
    x.seen(0, 0, 3);
    Check.due("28 CLAIMS", x.forget(0), 6);
    Check.due("28 none are left", x.count(2), 0);
    Check.due("28 nothing is owed", x.owed(0, 0), 0);
    Check.due("28 SIGHTINGS stay", x.count(3), 1);
    Check.due("28 CLAIMS from the first on", x.claim(0, 0, 1), 1);
  }

  private static void possibleRows() {
    SailAsAnother x = new SailAsAnother();
    Check.due("29 all rows", x.could(NONE), 720);
    Check.due("29 all NAMES", x.could(3), 63);
    x.hull(3, 0, 3);
    x.seen(4, 0, 3);
    Check.due("29 HULLS 2 or 3", x.could(NONE), 240);
    Check.due("29 HULL 2", x.could(2), 63);
    Check.due("29 HULL 3", x.could(3), 63);
    Check.due("29 HULL 0", x.could(0), 47);
    x.seen(5, 0, 3);
    Check.due("29 both of them", x.could(NONE), 48);
    Check.due("29 HULL 2, by both", x.could(2), 48);
    Check.due("29 HULL 0, by both", x.could(0), 15);
    x.hull(2, 1, 0);
    x.seen(5, 1, 0);
    Check.due("29 each one told", x.could(NONE), 24);
    Check.due("29 HULL 2 was 5", x.could(2), 32);
    Check.due("29 HULL 3 was 4", x.could(3), 16);
    x.seen(4, 1, 0);
    Check.due("29 no row", x.could(NONE), 0);
    Check.due("29 no NAME", x.could(0), 0);
    Check.due("29 could(-2)", x.could(-2), BAD);
    Check.due("29 could(6)", x.could(6), BAD);
    onlyRow();
  }

  private static void onlyRow() {
    SailAsAnother x = new SailAsAnother();
    for (int name = 0; name < 6; name++) {
      x.seen(name, 0, 6 - name);
    }
    Check.due("29 one row", x.could(NONE), 1);
    for (int hull = 0; hull < 6; hull++) {
      Check.due("29 could(" + hull + ") by one row", x.could(hull), 1 << 5 - hull);
    }
  }

  private static void impossibleNames() {
    SailAsAnother x = new SailAsAnother();
    Check.due("30 none", x.isFalse(), 0);
    x.seen(0, 0, 1);
    x.seen(1, 0, 1);
    Check.due("30 each by itself alone", x.isFalse(), 0);
    Check.due("30 though no row is left", x.could(NONE), 0);
    x.seen(2, 0, 9);
    Check.due("30 no such HULL", x.isFalse(), 4);
    x.seen(5, 0, 6);
    x.seen(5, 0, 5);
    Check.due("30 two SPEEDS", x.isFalse(), 36);
    x.hull(0, 0, 9);
    Check.due("30 by the SPEEDS now", x.isFalse(), 35);
    x.seen(3, 1, 4);
    Check.due("30 a HOLD", x.isFalse(), 43);
    x.forget(1);
    Check.due("30 forgotten", x.isFalse(), 0);
  }
}
