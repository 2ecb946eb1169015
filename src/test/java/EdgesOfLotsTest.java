/** The boundary cases of promises 15 to 22, and of what the document's part 3 says of lots. */
public final class EdgesOfLotsTest {
  /** Every HULL FITS every NAME. */
  private static final String ALL_FIT = "name(0,0,1) name(1,0,1) name(2,0,1) name(3,0,1) name(4,0,1) name(5,0,1) ";
  /** HULL k FITS NAMES 0 to k: one row alone is SOUND. */
  private static final String ONE_FITS = "name(0,0,1) name(1,0,2) name(2,0,3) name(3,0,4) name(4,0,5) name(5,0,6) ";
  /** No HULL FITS a NAME. */
  private static final String NONE_FIT = "name(0,0,9) name(1,0,9) name(2,0,9) name(3,0,9) name(4,0,9) name(5,0,9) ";
  private static final String NO_FEES = "name(0,2,0) name(1,2,0) name(2,2,0) name(3,2,0) name(4,2,0) name(5,2,0) ";
  private static final String MOST_FEES = "name(0,2,9) name(1,2,9) name(2,2,9) name(3,2,9) name(4,2,9) name(5,2,9) ";
  private static final String TWELVE = "text(" + Script.years(12) + ") ";

  public static void main(String[] args) {
    shipsAreSix();
    soundNumbers();
    soundAll();
    soundOne();
    soundNone();
    soundFirst();
    chanceWhat();
    chanceNoneAndSure();
    chanceLowestTerms();
    chanceNot();
    chanceOrderOfRefusals();
    aheadWhat();
    aheadNoneAndMost();
    aheadLowestTerms();
    aheadWhereItDoesNotFit();
    aheadAmongAllRows();
    bestNumbers();
    bestNoneAndMost();
    bestFirstOfLikeOnes();
    ratherYears();
    ratherBothMore();
    ratherNoneAndMany();
    onYears();
    onTimes();
    onNoneAndOne();
    returnsNumbers();
    returnsOneAtLeast();
    returnsAll();
    lotSeeds();
    lotEachNameOnce();
    Check.end();
  }

  private static void shipsAreSix() {
    String[] calls = {"chance(?,0,0)", "chance(0,?,1)", "ahead(?,0)", "on(0,?,1)", "lot(7,?)"};
    for (String call : calls) {
      Script.ship("15 to 22, HULLS and NAMES 0 to 5", Script.lived() + " " + ALL_FIT, call);
    }
  }

  private static void soundNumbers() {
    Script.bounds("15 NONE, HULLS 0 to 5", ONE_FITS, "sound(?)", -1, 5);
    Script.run("15 NONE is how many", ONE_FITS + "sound(NONE)=1 sound(-2)!BAD sound(6)!BAD");
  }

  private static void soundAll() {
    Script.run("15 all 720", ALL_FIT + "sound(NONE)=720 sound(0)=0 sound(1)=1 sound(2)=2 sound(3)=3 sound(4)=4 "
        + "sound(5)=5");
  }

  private static void soundOne() {
    Script.run("15 one alone", ONE_FITS + "sound(NONE)=1 sound(0)=0 sound(1)=1 sound(2)=2 sound(3)=3 sound(4)=4 "
        + "sound(5)=5 hull(3,0,3) sound(NONE)=0 sound(3)=NONE");
    Script.run("15 the last of all rows alone", "hull(0,0,6) hull(1,0,5) hull(2,0,4) hull(3,0,3) hull(4,0,2) "
        + "hull(5,0,1) "
        + ONE_FITS + "sound(NONE)=1 sound(0)=5 sound(1)=4 sound(2)=3 sound(3)=2 sound(4)=1 sound(5)=0");
  }

  private static void soundNone() {
    String none = "sound(NONE)=0 sound(0)=NONE sound(1)=NONE sound(2)=NONE sound(3)=NONE sound(4)=NONE sound(5)=NONE";
    Script.run("15 NONE: there is none", NONE_FIT + none);
    Script.run("15 NONE: two HULLS for one NAME", ONE_FITS + "hull(1,0,1) " + none);
    Script.run("15 NONE: a NAME for nobody", ALL_FIT + "name(5,1,9) " + none);
  }

  private static void soundFirst() {
    Script.run("15 by NAMES of HULLS 0 on", ALL_FIT + "name(0,0,6) sound(NONE)=120 sound(0)=1 sound(1)=2 sound(4)=5 "
        + "sound(5)=0 name(0,0,1) name(5,0,6) sound(0)=0 sound(5)=5");
  }

  private static void chanceWhat() {
    Script.bounds("16 what 0, 1", ALL_FIT, "chance(0,0,?)", 0, 1);
  }

  private static void chanceNoneAndSure() {
    Script.run("Terms, FRACTIONS, 0 by 1", ONE_FITS + "chance(0,1,0)=0 chance(0,1,1)=1 chance(5,0,0)=0 "
        + "chance(5,0,1)=1");
    Script.run("16 1 by 1", ONE_FITS + "chance(0,0,0)=1 chance(0,0,1)=1 chance(5,5,0)=1 chance(5,5,1)=1");
  }

  private static void chanceLowestTerms() {
    Script.run("Terms, FRACTIONS in lowest terms", ALL_FIT + "chance(0,0,0)=1 chance(0,0,1)=6 chance(5,3,0)=1 "
        + "chance(5,3,1)=6 name(0,0,2) chance(1,0,0)=1 chance(1,0,1)=5 chance(1,1,0)=4 chance(1,1,1)=25");
  }

  private static void chanceNot() {
    Script.run("16 NOT: there are none", NONE_FIT + "chance(0,0,0)!NOT chance(0,0,1)!NOT chance(5,5,0)!NOT "
        + "chance(5,5,1)!NOT");
    Script.run("16 a refusal is the least long and x more", NONE_FIT + "chance(0,0,0)=-9223372036854775805 "
        + "chance(6,0,0)=-9223372036854775806 ahead(6,0)=-9223372036854775806");
    Script.run("16 NOT, though some FIT", "fits(5,5)=1 sound(NONE)=0 chance(5,5,0)!NOT");
  }

  private static void chanceOrderOfRefusals() {
    String[] wrong = {"chance(-1,0,0)", "chance(6,0,0)", "chance(0,-1,0)", "chance(0,6,0)", "chance(0,0,-1)",
        "chance(0,0,2)"};
    for (String call : wrong) {
      Script.run("16 BAD; NOT", NONE_FIT + call + "!BAD");
      Script.run("16 BAD", ALL_FIT + call + "!BAD");
    }
  }

  private static void aheadWhat() {
    Script.bounds("17 what 0, 1", Script.lived(), "ahead(0,?)", 0, 1);
  }

  private static void aheadNoneAndMost() {
    Script.run("17 0 by 1", NONE_FIT + "ahead(0,0)=0 ahead(0,1)=1 ahead(5,0)=0 ahead(5,1)=1");
    Script.run("17 0 by 1 by FEES of 0", ALL_FIT + NO_FEES + "ahead(5,0)=0 ahead(5,1)=1");
    Script.run("17 9 by 1", ALL_FIT + MOST_FEES + "ahead(0,0)=9 ahead(0,1)=1 ahead(5,0)=9 ahead(5,1)=1");
  }

  private static void aheadLowestTerms() {
    Script.run("17 lowest terms", NO_FEES + "name(0,2,1) ahead(5,0)=1 ahead(5,1)=6 name(0,2,2) ahead(5,0)=1 "
        + "ahead(5,1)=3 name(0,2,3) ahead(5,0)=1 ahead(5,1)=2 name(0,2,4) ahead(5,0)=2 ahead(5,1)=3 name(0,2,5) "
        + "ahead(5,0)=5 ahead(5,1)=6 name(0,2,6) ahead(5,0)=1 ahead(5,1)=1 name(0,2,9) ahead(5,0)=3 ahead(5,1)=2");
  }

  private static void aheadWhereItDoesNotFit() {
    Script.run("17 0, where it does not FIT", "ahead(2,0)=7 ahead(2,1)=2 name(5,0,4) ahead(2,0)=5 ahead(2,1)=2 "
        + "ahead(1,0)=0 ahead(1,1)=1");
  }

  private static void aheadAmongAllRows() {
    Script.run("17 also where none is SOUND", "sound(NONE)=0 ahead(5,0)=7 ahead(5,1)=2");
    Script.run("17 also where one is SOUND", ONE_FITS + "ahead(0,0)=1 ahead(0,1)=6 ahead(5,0)=7 ahead(5,1)=2");
  }

  private static void bestNumbers() {
    Script.bounds("18 NONE, HULLS 0 to 5", Script.lived(), "best(?)", -1, 5);
    Script.run("18 NONE is how much", ONE_FITS + "best(NONE)=21 best(-2)!BAD best(6)!BAD");
  }

  private static void bestNoneAndMost() {
    String first = "best(0)=0 best(1)=1 best(2)=2 best(3)=3 best(4)=4 best(5)=5";
    Script.run("18 nothing is earned: the first row", NONE_FIT + "best(NONE)=0 " + first);
    Script.run("18 FEES of 0: the first row", ALL_FIT + NO_FEES + "best(NONE)=0 " + first);
    Script.run("18 the most", ALL_FIT + MOST_FEES + "best(NONE)=54 " + first);
  }

  private static void bestFirstOfLikeOnes() {
    Script.run("18 of like ones the first", NONE_FIT + MOST_FEES + "name(0,0,6) best(NONE)=9 best(0)=1 best(4)=5 "
        + "best(5)=0 hull(4,0,6) best(NONE)=9 best(0)=1 best(3)=4 best(4)=0 best(5)=5 hull(0,0,6) best(0)=0 best(4)=4 "
        + "best(5)=5");
    Script.run("18 the greatest ahead of the first", ALL_FIT + NONE_FIT + "name(5,0,1) name(4,0,6) best(NONE)=11 "
        + "best(0)=0 best(4)=5 best(5)=4 best(1)=1 best(2)=2 best(3)=3");
  }

  private static void ratherYears() {
    Script.run("19 no YEAR", "rather(0)!BAD rather(-1)!BAD");
    Script.bounds("19 three YEARS", Script.lived(), "rather(?)", 0, 2);
    Script.bounds("19 twelve YEARS", TWELVE, "rather(?)", 0, 11);
    Script.run("19 a FAULT", TWELVE + "type(59) rather(0)!BAD rather(11)!BAD");
  }

  /** HULL 0 is fast and small, HULL 1 slow and large; each FITS what the other one bears. */
  private static void ratherBothMore() {
    String pair = "hull(0,0,9) hull(0,1,0) hull(1,0,1) hull(1,1,9) name(0,0,1) name(0,1,9) name(1,0,9) name(1,1,0) ";
    Script.run("19 both would earn more", pair + "text(012345) rather(0)=1");
    Script.run("19 as much is not more: a FEE of 0", pair + "text(012345) name(0,2,0) rather(0)=0 name(0,2,1) "
        + "rather(0)=1 name(1,2,0) rather(0)=0");
    Script.run("19 as much is not more: like FEES", ALL_FIT + "text(012345) name(0,2,2) rather(0)=0");
    Script.run("19 one alone would earn more", ALL_FIT + "text(012345) rather(0)=0");
    Script.run("19 the one more, the other less", ALL_FIT + "text(102345) rather(0)=0 hull(0,0,9) name(1,0,9) "
        + "rather(0)=0");
    Script.run("19 by 1 more, and from 0", ALL_FIT + "text(102345) name(0,2,3) name(1,0,2) hull(0,0,1) hull(1,0,2) "
        + "rather(0)=0 name(0,0,3) hull(0,0,3) rather(0)=1 name(0,2,2) rather(0)=0");
  }

  /** Traits by which nearly every two would change; they were found by trying. */
  private static void ratherNoneAndMany() {
    Script.run("19 none", "text(012345) rather(0)=0");
    int[][] traits = {{8, 4, 7, 2, 9, 6}, {7, 7, 6, 7, 6, 8}, {2, 5, 1, 3, 1, 1}, {3, 3, 7, 6, 7, 5},
        {4, 9, 6, 8, 6, 5}};
    StringBuilder calls = new StringBuilder();
    for (int k = 0; k < 6; k++) {
      for (int what = 0; what < 5; what++) {
        String of = what < 2 ? "hull(" + k + "," + what : "name(" + k + "," + (what - 2);
        calls.append(of).append(',').append(traits[what][k]).append(") ");
      }
    }
    Script.run("19 twelve of the fifteen pairs, each told once", calls + "text(012345) rather(0)=12");
  }

  private static void onYears() {
    Script.run("20 no YEAR", "on(0,0,0)!BAD on(0,0,1)!BAD");
    Script.bounds("20 three YEARS", Script.lived(), "on(?,0,1)", 0, 2);
    Script.bounds("20 twelve YEARS", TWELVE, "on(?,5,999)", 0, 11);
  }

  private static void onTimes() {
    Script.bounds("20 t 0 to 999", Script.lived(), "on(0,4,?)", 0, 999);
    Script.run("20 at both ends", "text(123450) on(0,0,0)=0 on(0,0,998)=2 on(0,0,999)=3 on(0,0,1000)!BAD "
        + "on(0,0,-1)!BAD on(0,5,999)=2");
  }

  private static void onNoneAndOne() {
    Script.run("Part 3, at first HULL k bears NAME k", "text(120354) on(0,0,0)=0 on(0,1,0)=1 on(0,2,0)=2 on(0,3,0)=3 "
        + "on(0,4,0)=4 on(0,5,0)=5");
    Script.run("Part 3, behind the first time it is as in that YEAR", "text(012345;301254) on(1,0,1)=3 on(1,1,1)=0 "
        + "on(1,2,1)=1 on(1,3,1)=2 on(1,4,1)=5 on(1,5,1)=4 on(0,0,1)=0");
    Script.run("Part 3, who bears NAME k draws what HULL k bore", "text(120345) on(0,0,2)=2 on(0,1,2)=0 on(0,2,2)=1 "
        + "on(0,0,3)=0");
  }

  private static void returnsNumbers() {
    Script.run("21 no YEAR", "returns(0,0)!BAD returns(0,NONE)!BAD");
    Script.bounds("21 three YEARS", Script.lived(), "returns(?,0)", 0, 2);
    Script.bounds("21 twelve YEARS", TWELVE, "returns(?,NONE)", 0, 11);
    Script.bounds("21 NONE, HULLS 0 to 5", Script.lived(), "returns(2,?)", -1, 5);
  }

  private static void returnsOneAtLeast() {
    Script.run("21 1 at least", "text(012345) returns(0,0)=1 returns(0,5)=1 returns(0,NONE)=1");
    Script.run("21 a round of six", "text(123450) returns(0,0)=6 returns(0,5)=6 returns(0,NONE)=6");
    Script.run("21 the fewest", "text(120354) returns(0,0)=3 returns(0,3)=1 returns(0,4)=2");
  }

  private static void returnsAll() {
    Script.run("21 ALL: behind which all do", "text(120354;123054;123405;103254;012354) returns(0,NONE)=6 "
        + "returns(1,NONE)=4 returns(2,NONE)=5 returns(3,NONE)=2 returns(4,NONE)=2 returns(4,0)=1");
  }

  /** Rows worked out apart from Java, with numbers that do not wrap, taken modulo the 32nd power of 2. */
  private static void lotSeeds() {
    lotRow(0, "021345");
    lotRow(1, "213054");
    lotRow(-1, "153420");
    lotRow(7, "021354");
    lotRow(-5, "215403");
    lotRow(65535, "435102");
    lotRow(65536, "152430");
    lotRow(-65536, "325041");
    lotRow(123456789, "240351");
    lotRow(2147483647, "523041");
    lotRow(Integer.MIN_VALUE, "240315");
    lotRow(1073741824, "450123");
  }

  private static void lotRow(int seed, String row) {
    StringBuilder calls = new StringBuilder();
    for (int hull = 0; hull < 6; hull++) {
      calls.append(" lot(").append(seed).append(',').append(hull).append(")=").append(row.charAt(hull));
    }
    Script.run("22 SEED as ints that wrap", calls.toString());
  }

  private static void lotEachNameOnce() {
    SailAsAnother x = new SailAsAnother();
    for (int seed = -40; seed < 40; seed++) {
      int names = 0;
      for (int hull = 0; hull < 6; hull++) {
        names |= 1 << x.lot(seed * 53687091, hull);
      }
      Check.due("22 the NAMES that are left, SEED " + seed * 53687091, names, 63);
    }
  }
}
