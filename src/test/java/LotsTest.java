import java.util.ArrayList;
import java.util.List;

/** Promises 15 to 22: sound, chance, ahead, best, rather, on, returns, lot. */
public final class LotsTest {
  private static final int BAD = -2, NONE = -1;
  private static final long LONG_BAD = Long.MIN_VALUE + 2, LONG_NOT = Long.MIN_VALUE + 3;

  public static void main(String[] args) {
    soundOfNone();
    soundOfAll();
    soundOfTwo();
    soundRefused();
    chances();
    chancesRefused();
    aheads();
    bests();
    bestsOfLikeOnes();
    rathers();
    drawnOn();
    returning();
    lots();
    Check.end();
  }

  private static SailAsAnother allFit() {
    SailAsAnother x = new SailAsAnother();
    for (int name = 0; name < 6; name++) {
      x.name(name, 0, 1);
    }
    return x;
  }

  /** HULLS are the slower the later, NAMES 0 and 1 are for all: rows 543201 and 543210 are SOUND. */
  private static SailAsAnother twoRows() {
    SailAsAnother x = new SailAsAnother();
    int[] ways = {1, 1, 3, 4, 5, 6};
    for (int k = 0; k < 6; k++) {
      x.hull(k, 0, 6 - k);
      x.name(k, 0, ways[k]);
    }
    return x;
  }

  private static void row(String label, int[] got, int... want) {
    for (int hull = 0; hull < 6; hull++) {
      Check.due(label + " of HULL " + hull, got[hull], want[hull]);
    }
  }

  private static int[] soundRow(SailAsAnother x) {
    int[] row = new int[6];
    for (int hull = 0; hull < 6; hull++) {
      row[hull] = x.sound(hull);
    }
    return row;
  }

  private static int[] bestRow(SailAsAnother x) {
    int[] row = new int[6];
    for (int hull = 0; hull < 6; hull++) {
      row[hull] = x.best(hull);
    }
    return row;
  }

  private static void soundOfNone() {
    SailAsAnother x = new SailAsAnother();
    Check.due("15 none is SOUND", x.sound(NONE), 0);
    row("15 no first", soundRow(x), NONE, NONE, NONE, NONE, NONE, NONE);
    x = allFit();
    x.hull(5, 1, 4);
    Check.due("15 the last HULL alone FITS nothing", x.sound(NONE), 0);
    row("15 no first then", soundRow(x), NONE, NONE, NONE, NONE, NONE, NONE);
  }

  private static void soundOfAll() {
    SailAsAnother x = allFit();
    Check.due("15 all are SOUND", x.sound(NONE), 720);
    row("15 first of all", soundRow(x), 0, 1, 2, 3, 4, 5);
    x.name(0, 0, 6);
    Check.due("15 NAME 0 for HULL 5 alone", x.sound(NONE), 120);
    row("15 first with 0 for HULL 5", soundRow(x), 1, 2, 3, 4, 5, 0);
  }

  private static void soundOfTwo() {
    SailAsAnother x = twoRows();
    Check.due("15 two are SOUND", x.sound(NONE), 2);
    row("15 first of two", soundRow(x), 5, 4, 3, 2, 0, 1);
  }

  private static void soundRefused() {
    SailAsAnother x = twoRows();
    Check.due("15 sound(-2)", x.sound(-2), BAD);
    Check.due("15 sound(6)", x.sound(6), BAD);
    Check.due("15 sound(least)", x.sound(Integer.MIN_VALUE), BAD);
  }

  private static void chanceIs(SailAsAnother x, int hull, int name, long above, long below) {
    Check.due("16 above of " + hull + " as " + name, x.chance(hull, name, 0), above);
    Check.due("16 below of " + hull + " as " + name, x.chance(hull, name, 1), below);
  }

  private static void chances() {
    SailAsAnother x = twoRows();
    chanceIs(x, 0, 5, 1, 1);
    chanceIs(x, 0, 4, 0, 1);
    chanceIs(x, 3, 2, 1, 1);
    chanceIs(x, 3, 0, 0, 1);
    chanceIs(x, 4, 0, 1, 2);
    chanceIs(x, 4, 1, 1, 2);
    chanceIs(x, 5, 0, 1, 2);
    x = allFit();
    chanceIs(x, 2, 3, 1, 6);
    x.name(0, 0, 2);
    chanceIs(x, 0, 0, 0, 1);
    chanceIs(x, 0, 1, 1, 5);
    chanceIs(x, 1, 0, 1, 5);
    chanceIs(x, 1, 1, 4, 25);
  }

  private static void chancesRefused() {
    SailAsAnother x = new SailAsAnother();
    Check.due("16 NOT", x.chance(5, 5, 0), LONG_NOT);
    Check.due("16 NOT, below", x.chance(0, 5, 1), LONG_NOT);
    int[][] wrong = {{-1, 0, 0}, {6, 0, 0}, {0, -1, 0}, {0, 6, 0}, {0, 0, -1}, {0, 0, 2}};
    for (int[] w : wrong) {
      Check.due("16 BAD ahead of NOT " + w[0] + w[1] + w[2], x.chance(w[0], w[1], w[2]), LONG_BAD);
      Check.due("16 BAD " + w[0] + w[1] + w[2], allFit().chance(w[0], w[1], w[2]), LONG_BAD);
    }
  }

  private static void aheadIs(SailAsAnother x, int hull, long above, long below) {
    Check.due("17 above of " + hull, x.ahead(hull, 0), above);
    Check.due("17 below of " + hull, x.ahead(hull, 1), below);
  }

  private static void aheads() {
    SailAsAnother x = new SailAsAnother();
    aheadIs(x, 0, 0, 1);
    aheadIs(x, 1, 0, 1);
    aheadIs(x, 2, 7, 2);
    x.name(0, 0, 1);
    aheadIs(x, 0, 1, 6);
    x.name(0, 2, 4);
    aheadIs(x, 0, 2, 3);
    aheadIs(x, 5, 4, 1);
    x.name(0, 2, 0);
    aheadIs(x, 0, 0, 1);
    Check.due("17 ahead(-1,0)", x.ahead(-1, 0), LONG_BAD);
    Check.due("17 ahead(6,0)", x.ahead(6, 0), LONG_BAD);
    Check.due("17 ahead(0,-1)", x.ahead(0, -1), LONG_BAD);
    Check.due("17 ahead(0,2)", x.ahead(0, 2), LONG_BAD);
  }

  private static void bests() {
    SailAsAnother x = new SailAsAnother();
    Check.due("18 best(NONE)", x.best(NONE), 18);
    row("18 best", bestRow(x), 0, 1, 2, 3, 4, 5);
    for (int k = 0; k < 6; k++) {
      x.hull(k, 0, k == 0 ? 9 : 1);
    }
    Check.due("18 HULL 0 alone earns", x.best(NONE), 6);
    row("18 HULL 0 earns the most", bestRow(x), 5, 0, 1, 2, 3, 4);
    x = twoRows();
    Check.due("18 all FEES", x.best(NONE), 21);
    row("18 all FEES", bestRow(x), 5, 4, 3, 2, 0, 1);
    x.name(0, 2, 9);
    Check.due("18 a greater FEE of NAME 0", x.best(NONE), 29);
    x.name(0, 2, 1);
    for (int k = 0; k < 5; k++) {
      x.hull(k, 1, 0);
    }
    Check.due("18 HULL 5 alone FITS 0 and 1", x.best(NONE), 2);
    row("18 HULL 5 alone FITS 0 and 1", bestRow(x), 0, 2, 3, 4, 5, 1);
    x.name(0, 2, 9);
    Check.due("18 HULL 5 rather as 0", x.best(NONE), 9);
    row("18 HULL 5 rather as 0", bestRow(x), 1, 2, 3, 4, 5, 0);
    x = twoRows();
    x.name(1, 0, 9);
    Check.due("18 NAME 1 for nobody", x.best(NONE), 19);
    row("18 NAME 1 for nobody", bestRow(x), 5, 4, 3, 2, 0, 1);
    Check.due("18 best(-2)", x.best(-2), BAD);
    Check.due("18 best(6)", x.best(6), BAD);
  }

  private static void bestsOfLikeOnes() {
    SailAsAnother x = allFit();
    Check.due("18 all rows alike", x.best(NONE), 21);
    row("18 the first of all", bestRow(x), 0, 1, 2, 3, 4, 5);
    for (int name = 0; name < 6; name++) {
      x.name(name, 2, 0);
    }
    Check.due("18 no FEES", x.best(NONE), 0);
    row("18 no FEES, the first", bestRow(x), 0, 1, 2, 3, 4, 5);
  }

  /** HULL 0 is fast and small, HULL 1 slow and large; NAMES 0 and 1 want the other one of them. */
  private static void rathers() {
    SailAsAnother x = new SailAsAnother();
    Check.due("19 no YEAR", x.rather(0), BAD);
    x.hull(0, 0, 9);
    x.hull(0, 1, 0);
    x.hull(1, 0, 1);
    x.hull(1, 1, 9);
    x.name(0, 0, 1);
    x.name(0, 1, 9);
    x.name(1, 0, 9);
    x.name(1, 1, 0);
    Check.type(x, "012345;102345;210345");
    Check.due("19 one pair", x.rather(0), 1);
    Check.due("19 both have what they want", x.rather(1), 0);
    Check.due("19 one alone would rather", x.rather(2), 0);
    x.name(0, 2, 0);
    Check.due("19 as much is not more", x.rather(0), 0);
    Check.due("19 rather(-1)", x.rather(-1), BAD);
    Check.due("19 rather(3)", x.rather(3), BAD);
  }

  private static void drawnOn() {
    SailAsAnother x = new SailAsAnother();
    Check.due("20 no YEAR", x.on(0, 0, 0), BAD);
    Check.type(x, "012345;120354");
    int[][] due = {{0, 1, 2, 0, 1}, {1, 2, 0, 1, 2}, {2, 0, 1, 2, 0}, {3, 3, 3, 3, 3}, {4, 5, 4, 5, 4}, {5, 4, 5, 4, 5}};
    for (int hull = 0; hull < 6; hull++) {
      for (int t = 0; t < 5; t++) {
        Check.due("20 on(1," + hull + "," + t + ")", x.on(1, hull, t), due[hull][t]);
      }
      Check.due("20 on(0," + hull + ",7)", x.on(0, hull, 7), hull);
    }
    Check.due("20 on(1,0,998)", x.on(1, 0, 998), 2);
    Check.due("20 on(1,4,999)", x.on(1, 4, 999), 5);
    int[][] wrong = {{-1, 0, 0}, {2, 0, 0}, {1, -1, 0}, {1, 6, 0}, {1, 0, -1}, {1, 0, 1000}, {1, 0, Integer.MAX_VALUE}};
    for (int[] w : wrong) {
      Check.due("20 on(" + w[0] + "," + w[1] + "," + w[2] + ")", x.on(w[0], w[1], w[2]), BAD);
    }
  }

  private static void returning() {
    SailAsAnother x = new SailAsAnother();
    Check.due("21 no YEAR", x.returns(0, NONE), BAD);
    Check.type(x, "012345;120354;123450;123405;103254;123054");
    int[][] due = {{1, 1, 1, 1, 1, 1}, {3, 3, 3, 1, 2, 2}, {6, 6, 6, 6, 6, 6}, {5, 5, 5, 5, 5, 1}, {2, 2, 2, 2, 2, 2},
        {4, 4, 4, 4, 2, 2}};
    int[] all = {1, 6, 6, 5, 2, 4};
    for (int year = 0; year < 6; year++) {
      for (int hull = 0; hull < 6; hull++) {
        Check.due("21 returns(" + year + "," + hull + ")", x.returns(year, hull), due[year][hull]);
      }
      Check.due("21 returns(" + year + ",NONE)", x.returns(year, NONE), all[year]);
    }
    Check.due("21 returns(-1,0)", x.returns(-1, 0), BAD);
    Check.due("21 returns(6,0)", x.returns(6, 0), BAD);
    Check.due("21 returns(0,-2)", x.returns(0, -2), BAD);
    Check.due("21 returns(0,6)", x.returns(0, 6), BAD);
  }

  private static void lots() {
    SailAsAnother x = new SailAsAnother();
    int[] seeds = {0, 1, 7, -1, -5, 123456789, Integer.MIN_VALUE, Integer.MAX_VALUE, 65536, -65536};
    for (int seed : seeds) {
      long number = seed & 0xffffffffL;
      List<Integer> left = new ArrayList<>(List.of(0, 1, 2, 3, 4, 5));
      for (int hull = 0; hull < 6; hull++) {
        number = (number * 1103515245L + 12345L) % 4294967296L;
        int due = left.remove((int) (number / 65536 % left.size()));
        Check.due("22 lot(" + seed + "," + hull + ")", x.lot(seed, hull), due);
      }
    }
    Check.due("22 lot(0,1)", x.lot(0, 1), 2);
    Check.due("22 lot(0,-1)", x.lot(0, -1), BAD);
    Check.due("22 lot(0,6)", x.lot(0, 6), BAD);
  }
}
