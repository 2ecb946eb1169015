/** Promises 37 and 38: count, digest. */
public final class CountDigestTest {
  private static final int BAD = -2, NONE = -1;

  private long h = 17;

  public static void main(String[] args) {
    counts();
    countsOfFindings();
    digests();
    digestChangesNothing();
    Check.end();
  }

  private static void countsAre(SailAsAnother x, int... want) {
    for (int what = 0; what < want.length; what++) {
      Check.due("37 count(" + what + ")", x.count(what), want[what]);
    }
  }

  private static void counts() {
    SailAsAnother x = new SailAsAnother();
    Check.type(x, "012345;543210");
    x.claim(0, 0, 1);
    x.claim(0, 9, 1);
    x.seen(0, 0, 1);
    countsAre(x, 2, 13, 2, 1, 24, 28, 14, 4, 0);
    x.hull(0, 0, 3);
    countsAre(x, 2, 13, 2, 1, 30, 35, 7, 2, 0);
    x.name(5, 1, 6);
    countsAre(x, 2, 13, 2, 1, 25, 23, 19, 4, 0);
    x.type('0');
    countsAre(x, 0, 14, 2, 1, 25, 0, 0, 0, 0);
    Check.due("37 count(-1)", x.count(-1), BAD);
    Check.due("37 count(9)", x.count(9), BAD);
    Check.due("37 count(least)", x.count(Integer.MIN_VALUE), BAD);
  }

  private static void countsOfFindings() {
    SailAsAnother x = new SailAsAnother();
    x.sheet(0, 0, -1);
    Check.due("37 SIZE", x.count(8), 5);
    x.sheet(0, 0, 1);
    Check.due("37 a call that is well changes it not", x.count(8), 5);
    x.get(0, 1, 0);
    Check.due("37 CAST", x.count(8), 3);
    x.sheet(1, 2, 1);
    x.copy(0, 0, 1, 0, 1);
    Check.due("37 STORE", x.count(8), 4);
    x.put(0, 0, 1, 1);
    Check.due("37 INDEX", x.count(8), 2);
    x.lose(3);
    Check.due("37 NULL", x.count(8), 1);
    x.lose(4);
    x.wipe();
    Check.due("37 BAD is none", x.count(8), 1);
  }

  private void mix(long answer) {
    h = h * 31 + answer;
  }

  private void mixHull(SailAsAnother x, int hull, int years) {
    mix(x.purse(hull, years));
    mix(x.been(hull, years));
    mix(x.home(hull));
    mix(x.other(hull, hull == 5 ? 0 : hull + 1));
    mix(x.sound(hull));
    mix(x.chance(hull, hull, 0));
    mix(x.chance(hull, hull, 1));
    mix(x.ahead(hull, 0));
    mix(x.ahead(hull, 1));
    mix(x.best(hull));
    mix(x.lot(7, hull));
    mix(x.owed(hull, 0));
    mix(x.owed(hull, 1));
    mix(x.owed(hull, 2));
    mix(x.could(hull));
  }

  private static long digestByCalls(SailAsAnother x) {
    CountDigestTest d = new CountDigestTest();
    int years = x.count(0);
    for (int what = 0; what <= 7; what++) {
      d.mix(x.count(what));
    }
    d.mix(x.fault());
    for (int hull = 0; hull < 6; hull++) {
      d.mixHull(x, hull, years);
    }
    for (int name = 0; name < 6; name++) {
      d.mix(x.debt(name, years, 0));
      d.mix(x.debt(name, years, 1));
    }
    for (int year = 0; year < years; year++) {
      d.mix(x.rather(year));
      d.mix(x.returns(year, NONE));
      d.mix(x.on(year, 0, 5));
    }
    d.mix(x.sound(NONE));
    d.mix(x.best(NONE));
    d.mix(x.could(NONE));
    d.mix(x.disputed());
    d.mix(x.isFalse());
    return d.h;
  }

  private static void digests() {
    SailAsAnother x = new SailAsAnother();
    Check.due("38 digest() of a new one", x.digest(), digestByCalls(x));
    Check.type(x, "120354;543210;012345");
    Check.due("38 with YEARS", x.digest(), digestByCalls(x));
    x.name(0, 0, 1);
    x.name(1, 0, 2);
    Check.due("38 with SOUND ones", x.digest(), digestByCalls(x));
    x.claim(0, 0, 9);
    x.claim(5, 1, 7);
    x.claim(5, 5, 7);
    Check.due("38 with CLAIMS", x.digest(), digestByCalls(x));
    x.seen(3, 0, 2);
    x.seen(4, 1, 9);
    Check.due("38 with SIGHTINGS", x.digest(), digestByCalls(x));
    x.type('?');
    Check.due("38 with a FAULT", x.digest(), digestByCalls(x));
  }

  private static void digestChangesNothing() {
    SailAsAnother x = new SailAsAnother();
    Check.type(x, "120354");
    long first = x.digest();
    Check.due("38 twice", x.digest(), first);
    x.lose(0);
    x.sheet(0, 0, 3);
    Check.due("38 SHEETS and FINDINGS are not in it", x.digest(), first);
    Check.due("38 FINDING as it was", x.count(8), 1);
    Check.due("38 SHEET as it was", x.lose(0), 3);
  }
}
