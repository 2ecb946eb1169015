/** Promises 10 to 14: purse, debt, been, home, other. */
public final class YearsTest {
  private static final int BAD = -2, NONE = -1;

  public static void main(String[] args) {
    purses();
    debts();
    been();
    homes();
    others();
    Check.end();
  }

  /** HULLS 0 and 1 are too slow for every NAME; FEES are the number and 1. */
  private static SailAsAnother threeYears() {
    SailAsAnother x = new SailAsAnother();
    Check.type(x, "012345;543210;120354");
    return x;
  }

  private static void purses() {
    SailAsAnother x = threeYears();
    int[][] due = {{0, 0, 0, 0}, {0, 0, 0, 0}, {0, 3, 7, 8}, {0, 4, 7, 11}, {0, 5, 7, 13}, {0, 6, 7, 12}};
    for (int hull = 0; hull < 6; hull++) {
      for (int k = 0; k <= 3; k++) {
        Check.due("10 purse(" + hull + "," + k + ")", x.purse(hull, k), due[hull][k]);
      }
    }
    Check.due("10 purse(-1,0)", x.purse(-1, 0), BAD);
    Check.due("10 purse(6,0)", x.purse(6, 0), BAD);
    Check.due("10 purse(0,-1)", x.purse(0, -1), BAD);
    Check.due("10 purse(0,4)", x.purse(0, 4), BAD);
    x.name(2, 2, 9);
    Check.due("10 by the FEE now", x.purse(2, 1), 9);
    x.hull(2, 1, 4);
    Check.due("10 by the HOLD now", x.purse(2, 3), 0);
  }

  private static void debts() {
    SailAsAnother x = threeYears();
    int[][] shame = {{0, 1, 1, 1}, {0, 1, 1, 2}, {0, 0, 0, 1}, {0, 0, 0, 0}, {0, 0, 1, 1}, {0, 0, 1, 1}};
    for (int name = 0; name < 6; name++) {
      for (int k = 0; k <= 3; k++) {
        String of = "(" + name + "," + k + ",";
        Check.due("11 debt" + of + "1)", x.debt(name, k, 1), shame[name][k]);
        Check.due("11 debt" + of + "0)", x.debt(name, k, 0), shame[name][k] * (name + 1));
      }
    }
    Check.due("11 debt(-1,0,0)", x.debt(-1, 0, 0), BAD);
    Check.due("11 debt(6,0,0)", x.debt(6, 0, 0), BAD);
    Check.due("11 debt(0,-1,0)", x.debt(0, -1, 0), BAD);
    Check.due("11 debt(0,4,0)", x.debt(0, 4, 0), BAD);
    Check.due("11 debt(0,0,-1)", x.debt(0, 0, -1), BAD);
    Check.due("11 debt(0,0,2)", x.debt(0, 0, 2), BAD);
    x.name(1, 2, 0);
    Check.due("11 no FEE, no DEBT", x.debt(1, 3, 0), 0);
    Check.due("11 but SHAME", x.debt(1, 3, 1), 2);
    shameByEachHull();
  }

  private static void shameByEachHull() {
    for (int hull = 0; hull < 6; hull++) {
      SailAsAnother x = new SailAsAnother();
      for (int k = 0; k < 6; k++) {
        x.name(k, 0, 1);
      }
      x.hull(hull, 1, 0);
      Check.type(x, "120354");
      for (int name = 0; name < 6; name++) {
        Check.due("11 SHAME of " + name + " by HULL " + hull, x.debt(name, 1, 1), x.borne(hull, 0) == name ? 1 : 0);
      }
    }
  }

  private static void been() {
    SailAsAnother x = threeYears();
    int[][] due = {{0, 1, 33, 35}, {0, 2, 18, 22}, {0, 4, 12, 13}, {0, 8, 12, 12}, {0, 16, 18, 50}, {0, 32, 33, 49}};
    for (int hull = 0; hull < 6; hull++) {
      for (int k = 0; k <= 3; k++) {
        Check.due("12 been(" + hull + "," + k + ")", x.been(hull, k), due[hull][k]);
      }
    }
    Check.due("12 been(-1,0)", x.been(-1, 0), BAD);
    Check.due("12 been(6,0)", x.been(6, 0), BAD);
    Check.due("12 been(0,-1)", x.been(0, -1), BAD);
    Check.due("12 been(0,4)", x.been(0, 4), BAD);
  }

  private static void homes() {
    SailAsAnother x = new SailAsAnother();
    Check.due("13 home of no YEAR", x.home(0), NONE);
    Check.type(x, "120354;012354;012345");
    int[] due = {1, 1, 1, 0, 2, 2};
    for (int hull = 0; hull < 6; hull++) {
      Check.due("13 home(" + hull + ")", x.home(hull), due[hull]);
    }
    x.wipe();
    Check.type(x, "543210");
    Check.due("13 never home", x.home(3), NONE);
    Check.due("13 home(-1)", x.home(-1), BAD);
    Check.due("13 home(6)", x.home(6), BAD);
  }

  private static void others() {
    SailAsAnother x = new SailAsAnother();
    Check.due("14 of no YEAR", x.other(0, 1), NONE);
    Check.type(x, "120345;012354;102345;102354");
    Check.due("14 other(0,1)", x.other(0, 1), 2);
    Check.due("14 other(1,0)", x.other(1, 0), 2);
    Check.due("14 other(4,5)", x.other(4, 5), 1);
    Check.due("14 one side alone", x.other(1, 2), NONE);
    Check.due("14 both at home", x.other(2, 3), NONE);
    Check.due("14 with itself", x.other(3, 3), BAD);
    Check.due("14 other(-1,0)", x.other(-1, 0), BAD);
    Check.due("14 other(0,-1)", x.other(0, -1), BAD);
    Check.due("14 other(6,0)", x.other(6, 0), BAD);
    Check.due("14 other(0,6)", x.other(0, 6), BAD);
  }
}
