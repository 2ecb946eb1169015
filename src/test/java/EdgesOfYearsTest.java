/** The boundary cases of promises 10 to 14, and of what the document's part 2 says of YEARS. */
public final class EdgesOfYearsTest {
  private static final String TWELVE = "text(" + Script.years(12) + ")";
  /** Each HULL bears each NAME once in the first six YEARS; in the later six it all comes again. */
  private static final String AROUND = "text(012345;123450;234501;345012;450123;501234;"
      + "012345;123450;234501;345012;450123;501234)";

  public static void main(String[] args) {
    shipsAreSix();
    spanOfNoYear();
    spanOfTwelveYears();
    allZeroAtFirst();
    spanWithFault();
    feeOrDebt();
    leastAndMostEarned();
    leastAndMostOwed();
    whatOfDebt();
    beenBits();
    homeFirst();
    homeNone();
    otherFirst();
    otherNone();
    otherWithItself();
    Check.end();
  }

  private static void shipsAreSix() {
    String[] calls = {"purse(?,0)", "debt(?,0,0)", "been(?,0)", "home(?)", "other(?,3)", "other(3,?)"};
    for (String call : calls) {
      Script.ship("10 to 14, HULLS and NAMES 0 to 5", Script.lived(), call);
    }
  }

  private static void spanOfNoYear() {
    String[] calls = {"purse(0,?)", "debt(0,?,0)", "debt(0,?,1)", "been(0,?)"};
    for (String call : calls) {
      Script.bounds("Part 2, behind k YEARS, of none", "", call, 0, 0);
      Script.bounds("Part 2, behind k YEARS, of one", "text(012345)", call, 0, 1);
      Script.bounds("Part 2, behind k YEARS, of three", Script.lived(), call, 0, 3);
    }
  }

  private static void spanOfTwelveYears() {
    String[] calls = {"purse(5,?)", "debt(5,?,0)", "debt(5,?,1)", "been(5,?)"};
    for (String call : calls) {
      Script.bounds("Part 2, behind k YEARS, of twelve", TWELVE, call, 0, 12);
    }
  }

  private static void allZeroAtFirst() {
    for (String years : new String[] {"", AROUND}) {
      for (int k = 0; k < 6; k++) {
        Script.run("Part 2, all 0 at first", years + " purse(" + k + ",0)=0 debt(" + k + ",0,0)=0 debt(" + k
            + ",0,1)=0 been(" + k + ",0)=0");
      }
    }
  }

  private static void spanWithFault() {
    String[] calls = {"purse(5,?)", "debt(5,?,0)", "debt(5,?,1)", "been(5,?)"};
    for (String call : calls) {
      Script.bounds("Part 2, behind k YEARS, with a FAULT", TWELVE + " type(59)", call, 0, 0);
    }
  }

  /** HULL 3 as NAME 4, at the edge of fitting: each YEAR's FEE goes to the PURSE or to the DEBT, never to both. */
  private static void feeOrDebt() {
    Script.run("Part 2, it FITS just so", "text(012435) name(4,0,4) purse(3,1)=5 debt(4,1,0)=0 debt(4,1,1)=0");
    Script.run("Part 2, too slow by 1", "text(012435) name(4,0,5) purse(3,1)=0 debt(4,1,0)=5 debt(4,1,1)=1 "
        + "debt(3,1,0)=0");
    Script.run("Part 2, too small by 1", "text(012435) name(4,1,6) purse(3,1)=0 debt(4,1,0)=5 debt(4,1,1)=1 "
        + "debt(3,1,1)=0");
    Script.run("Part 2, a FEE of 0", "text(012435) name(4,2,0) purse(3,1)=0 debt(4,1,1)=0 name(4,1,6) purse(3,1)=0 "
        + "debt(4,1,0)=0 debt(4,1,1)=1");
  }

  private static String eachName(int what, int v) {
    StringBuilder calls = new StringBuilder();
    for (int name = 0; name < 6; name++) {
      calls.append(" name(").append(name).append(',').append(what).append(',').append(v).append(')');
    }
    return calls + " ";
  }

  private static void leastAndMostEarned() {
    Script.run("10 the most", AROUND + eachName(0, 1) + eachName(2, 9) + "purse(0,12)=108 purse(5,12)=108 purse(5,1)=9 "
        + "purse(5,11)=99 count(5)=648 count(6)=0 count(7)=0");
    Script.run("10 the least", AROUND + eachName(0, 1) + eachName(2, 0) + "purse(0,12)=0 count(5)=0 count(6)=0 "
        + "count(7)=0");
  }

  private static void leastAndMostOwed() {
    Script.run("11 the most", AROUND + eachName(0, 9) + eachName(2, 9) + "debt(0,12,0)=108 debt(5,12,1)=12 "
        + "debt(5,11,0)=99 debt(5,11,1)=11 count(5)=0 count(6)=648 count(7)=72");
    Script.run("11 the least DEBT, the most SHAME", AROUND + eachName(0, 9) + eachName(2, 0)
        + "debt(0,12,0)=0 debt(0,12,1)=12 count(6)=0 count(7)=72");
  }

  private static void whatOfDebt() {
    Script.bounds("11 what 0, 1", Script.lived(), "debt(0,3,?)", 0, 1);
  }

  private static void beenBits() {
    Script.run("12 each NAME more", AROUND + " been(0,0)=0 been(0,1)=1 been(0,2)=3 been(0,5)=31 been(0,6)=63 "
        + "been(0,7)=63 been(0,12)=63 been(5,1)=32 been(5,2)=33");
    Script.run("12 one NAME again and again", "text(012345;012345;012345) been(5,3)=32 been(0,3)=1");
  }

  private static void homeFirst() {
    Script.run("13 in the first YEAR", "text(021345;012345) home(0)=0 home(5)=0 home(1)=1");
    Script.run("13 in the twelfth YEAR", "text(" + "123450;".repeat(10) + "123450) home(0)=NONE home(3)=NONE "
        + "text(;012345) home(0)=11 home(3)=11 home(5)=11");
    Script.run("13 the first of several", "text(123450;012345;012345) home(0)=1 home(5)=1");
  }

  private static void homeNone() {
    Script.run("13 NONE", "home(0)=NONE text(123450) home(0)=NONE home(5)=NONE");
    Script.run("13 NONE with a FAULT", "text(012345) home(0)=0 type(59) home(0)=NONE wipe() home(0)=NONE");
  }

  private static void otherFirst() {
    Script.run("14 in the first YEAR", "text(102354;102354) other(0,1)=0 other(1,0)=0 other(4,5)=0 other(5,4)=0");
    Script.run("14 in the twelfth YEAR", "text(" + "012345;".repeat(10) + "012345) other(0,5)=NONE text(;512340) "
        + "other(0,5)=11 other(5,0)=11");
  }

  private static void otherNone() {
    Script.run("14 NONE", "other(0,1)=NONE text(120345) other(0,1)=NONE other(1,2)=NONE other(3,4)=NONE");
    Script.run("14 not in two YEARS, one each", "text(120345;201345) other(0,1)=NONE other(1,2)=NONE other(0,2)=NONE");
    Script.run("14 NONE with a FAULT", "text(102345) other(0,1)=0 type(120) other(0,1)=NONE");
  }

  private static void otherWithItself() {
    for (int hull = 0; hull < 6; hull++) {
      Script.run("14 BAD: also one with itself", "text(012345) other(" + hull + "," + hull + ")!BAD");
    }
    Script.run("14 BAD: itself, though there is no YEAR", "other(0,0)!BAD other(-1,-1)!BAD other(6,6)!BAD");
  }
}
