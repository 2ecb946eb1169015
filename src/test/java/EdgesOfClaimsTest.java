/** The boundary cases of promises 23 to 30, and of what the document's part 4 says of CLAIMS and SIGHTINGS. */
public final class EdgesOfClaimsTest {
  private static final String TWELVE = "text(" + Script.years(12) + ") ";
  private static final String ELEVEN_CLAIMS = "claim(0,0,1) claim(0,1,1) claim(0,2,1) claim(0,3,1) claim(0,4,1) "
        + "claim(0,5,1) claim(0,6,1) claim(0,7,1) claim(0,8,1) claim(0,9,1) claim(0,10,1) ";
  private static final String SEVEN_SIGHTINGS = "seen(0,0,1) seen(1,0,2) seen(2,0,3) seen(3,0,4) seen(4,0,5) "
        + "seen(5,0,6) seen(0,1,5) ";

  public static void main(String[] args) {
    shipsAreSix();
    claimYear();
    claimHarm();
    claimTwelve();
    claimOrderOfRefusals();
    claimAnew();
    owedLaws();
    owedYearThatThereIsNot();
    owedWithFault();
    owedHalfCut();
    owedAtHome();
    owedNoneAndMost();
    lightestOfLikeOnes();
    lightestEachLaw();
    disputedNoneAndAll();
    disputedThatCount();
    seenWhat();
    seenSpeed();
    seenHold();
    seenEight();
    seenOrderOfRefusals();
    seenAnew();
    forgetWhat();
    forgetNoneAndAll();
    couldNumbers();
    couldAll();
    couldOne();
    couldNone();
    couldJustThat();
    falseNoneAndAll();
    falseByTheirOwn();
    Check.end();
  }

  private static void shipsAreSix() {
    String[] calls = {"claim(?,0,1)", "owed(?,0)", "lightest(?)", "seen(?,0,1)"};
    for (String call : calls) {
      Script.ship("23 to 30, HULLS and NAMES 0 to 5", Script.lived(), call);
    }
  }

  private static void claimYear() {
    Script.bounds("Part 4, a YEAR (0 to 11), with three YEARS", Script.lived(), "claim(0,?,1)", 0, 11);
    Script.bounds("Part 4, a YEAR (0 to 11), with none", "", "claim(0,?,1)", 0, 11);
    Script.bounds("Part 4, a YEAR (0 to 11), with twelve", TWELVE, "claim(0,?,1)", 0, 11);
    Script.run("Part 4, YEAR 11 counts", "claim(0,11,9)=1 claim(0,0,5)=2 " + TWELVE + "owed(0,0)=14 owed(5,1)=9 "
        + "owed(1,1)=5");
  }

  private static void claimHarm() {
    Script.bounds("Part 4, harm (1 to 99)", Script.lived(), "claim(0,0,?)", 1, 99);
    Script.run("Part 4, harm (1 to 99)", "text(012345) claim(0,0,0)!BAD claim(0,0,1)=1 owed(0,0)=1 claim(0,0,100)!BAD "
        + "claim(0,0,99)=2 owed(0,0)=100");
  }

  private static void claimTwelve() {
    Script.run("Part 4, CLAIMS, 12 at most", "text(012345) " + ELEVEN_CLAIMS + "count(2)=11 claim(1,0,7)=12 "
        + "count(2)=12 claim(1,0,7)!FULL claim(5,11,99)!FULL count(2)=12 owed(1,0)=7 owed(0,0)=1");
  }

  private static void claimOrderOfRefusals() {
    String full = ELEVEN_CLAIMS + "claim(0,11,1)=12 ";
    String[] wrong = {"claim(-1,0,1)", "claim(6,0,1)", "claim(0,-1,1)", "claim(0,12,1)", "claim(0,0,0)",
        "claim(0,0,100)"};
    for (String call : wrong) {
      Script.run("23 BAD; FULL", full + call + "!BAD claim(0,0,1)!FULL");
    }
  }

  private static void claimAnew() {
    Script.run("23 room anew", "text(102345) " + ELEVEN_CLAIMS + "claim(0,0,1)=12 forget(0)=12 claim(1,0,2)=1 "
        + "owed(1,0)=2 owed(0,0)=0 owed(0,1)=2");
    Script.run("23 the same CLAIM twice is two", "text(102345) claim(0,0,5)=1 claim(0,0,5)=2 owed(0,0)=10 "
        + "disputed()=2");
  }

  private static void owedLaws() {
    Script.bounds("24 laws 0 to 2", Script.lived(), "owed(0,?)", 0, 2);
  }

  private static void owedYearThatThereIsNot() {
    Script.run("Part 4, of a YEAR that there is not", "claim(0,0,3) claim(0,1,10) claim(0,2,40) owed(0,0)=0 "
        + "text(102345) owed(0,0)=3 owed(1,1)=3 text(;102345) owed(0,0)=13 owed(1,1)=13 text(;102345) owed(0,0)=53 "
        + "owed(1,1)=53 owed(1,2)=27 owed(0,2)=26");
  }

  private static void owedWithFault() {
    Script.run("24 none counts with a FAULT", "claim(0,0,3) text(102345) owed(0,0)=3 type(59) owed(0,0)=0 owed(1,1)=0 "
        + "owed(0,2)=0 owed(1,2)=0 count(2)=1 text(012345) owed(0,0)=3");
  }

  private static void owedHalfCut() {
    Script.run("Part 4, half (cut): of 1", "text(102345) claim(0,0,1) owed(0,2)=0 owed(1,2)=1");
    Script.run("Part 4, half (cut): of 2", "text(102345) claim(0,0,2) owed(0,2)=1 owed(1,2)=1");
    Script.run("Part 4, half (cut): of 3", "text(102345) claim(0,0,3) owed(0,2)=1 owed(1,2)=2");
    Script.run("Part 4, half (cut): of 99", "text(102345) claim(0,0,99) owed(0,2)=49 owed(1,2)=50");
    Script.run("Part 4, half (cut): of each one by itself", "text(102345) claim(0,0,1) claim(0,0,1) owed(0,2)=0 "
        + "owed(1,2)=2");
  }

  private static void owedAtHome() {
    Script.run("24 at home both halves are one's own", "text(012345) claim(3,0,9) owed(3,0)=9 owed(3,1)=9 owed(3,2)=9 "
        + "owed(2,2)=0");
  }

  private static void owedNoneAndMost() {
    Script.run("24 of no CLAIM", TWELVE + "owed(0,0)=0 owed(5,1)=0 owed(5,2)=0");
    StringBuilder claims = new StringBuilder("text(102345) ");
    for (int k = 0; k < 12; k++) {
      claims.append("claim(0,0,99) ");
    }
    Script.run("24 the most", claims + "owed(0,0)=1188 owed(1,1)=1188 owed(0,1)=0 owed(0,2)=588 owed(1,2)=600");
  }

  private static void lightestOfLikeOnes() {
    Script.run("Part 4, of like ones the least: all alike", "lightest(0)=0 text(012345) claim(0,0,9) lightest(0)=0 "
        + "lightest(5)=0");
    Script.run("Part 4, of like ones the least: 1 and 2", "text(102345) claim(0,0,1) owed(0,0)=1 owed(0,1)=0 "
        + "owed(0,2)=0 lightest(0)=1");
    Script.run("Part 4, of like ones the least: all three owe 1", "text(120345) claim(0,0,1) claim(2,0,1) owed(0,0)=1 "
        + "owed(0,1)=1 owed(0,2)=1 lightest(0)=0");
    Script.run("Part 4, of like ones the least: 0 and 2", "text(201345) claim(0,0,1) claim(0,0,1) claim(1,0,2) "
        + "claim(1,0,1) owed(0,0)=2 owed(0,1)=3 owed(0,2)=2 lightest(0)=0");
  }

  private static void lightestEachLaw() {
    Script.run("25 law 0", "text(102345) claim(0,0,9) lightest(1)=0");
    Script.run("25 law 1", "text(102345) claim(0,0,9) lightest(0)=1");
    Script.run("25 law 2", "text(102345) claim(0,0,1) claim(0,0,1) claim(1,0,2) owed(0,0)=2 owed(0,1)=2 owed(0,2)=1 "
        + "lightest(0)=2");
  }

  private static void disputedNoneAndAll() {
    Script.run("26 none", "disputed()=0 text(102345) disputed()=0 claim(2,0,9) disputed()=0");
    Script.run("26 all twelve", "text(" + "123450;".repeat(11) + "123450) " + ELEVEN_CLAIMS
        + "claim(5,11,99) disputed()=12");
  }

  private static void disputedThatCount() {
    Script.run("26 CLAIMS that count", "claim(0,0,9) claim(0,1,9) disputed()=0 text(102345) disputed()=1 "
        + "text(;102345) disputed()=2 type(59) disputed()=0");
  }

  private static void seenWhat() {
    Script.bounds("27 what 0, 1", Script.lived(), "seen(0,?,1)", 0, 1);
  }

  private static void seenSpeed() {
    Script.bounds("Part 4, a SPEED (1 to 9)", Script.lived(), "seen(0,0,?)", 1, 9);
    Script.run("Part 4, a SPEED (1 to 9)", "seen(0,0,0)!BAD seen(0,0,1)=1 could(0)=1 seen(1,0,10)!BAD hull(5,0,9) "
        + "seen(1,0,9)=2 could(5)=2 could(NONE)=24");
  }

  private static void seenHold() {
    Script.bounds("Part 4, a HOLD (0 to 9)", Script.lived(), "seen(0,1,?)", 0, 9);
    Script.run("Part 4, a HOLD (0 to 9)", "hull(0,1,0) hull(5,1,9) seen(0,1,-1)!BAD seen(0,1,0)=1 could(0)=1 "
        + "seen(1,1,10)!BAD seen(1,1,9)=2 could(5)=2 could(NONE)=24");
  }

  private static void seenEight() {
    Script.run("Part 4, SIGHTINGS, 8 at most", SEVEN_SIGHTINGS + "count(3)=7 could(NONE)=1 seen(1,1,4)=8 count(3)=8 "
        + "could(NONE)=0 seen(1,1,4)!FULL seen(5,0,9)!FULL count(3)=8 isFalse()=2");
  }

  private static void seenOrderOfRefusals() {
    String full = SEVEN_SIGHTINGS + "seen(1,1,5)=8 ";
    String[] wrong = {"seen(-1,0,1)", "seen(6,0,1)", "seen(0,-1,1)", "seen(0,2,1)", "seen(0,0,0)", "seen(0,0,10)",
        "seen(0,1,-1)", "seen(0,1,10)"};
    for (String call : wrong) {
      Script.run("27 BAD; FULL", full + call + "!BAD seen(0,0,1)!FULL");
    }
  }

  private static void seenAnew() {
    Script.run("27 room anew", SEVEN_SIGHTINGS + "seen(1,1,4)=8 forget(1)=8 could(NONE)=720 seen(0,0,1)=1 "
        + "could(NONE)=120");
    Script.run("27 the same SIGHTING twice", "seen(0,0,1)=1 seen(0,0,1)=2 could(NONE)=120 isFalse()=0");
  }

  private static void forgetWhat() {
    Script.bounds("28 what 0, 1", Script.lived(), "forget(?)", 0, 1);
  }

  private static void forgetNoneAndAll() {
    Script.run("28 none", "forget(0)=0 forget(1)=0 count(2)=0 count(3)=0");
    Script.run("28 all CLAIMS", ELEVEN_CLAIMS + "claim(0,11,1) seen(0,0,1) forget(0)=12 forget(0)=0 count(3)=1");
    Script.run("28 all SIGHTINGS", "claim(0,0,1) " + SEVEN_SIGHTINGS + "seen(1,1,5) forget(1)=8 forget(1)=0 "
        + "count(2)=1");
  }

  private static void couldNumbers() {
    Script.bounds("29 NONE, HULLS 0 to 5", Script.lived(), "could(?)", -1, 5);
    Script.run("29 NONE is how many rows", "could(NONE)=720 could(-2)!BAD could(6)!BAD");
  }

  private static void couldAll() {
    Script.run("29 all 720 rows, all NAMES", "could(NONE)=720 could(0)=63 could(5)=63");
    Script.run("29 all, as all HULLS have just that", "seen(0,1,5) seen(5,1,5) could(NONE)=720 could(0)=63 "
        + "could(5)=63");
  }

  private static void couldOne() {
    Script.run("29 one row", SEVEN_SIGHTINGS + "could(NONE)=1 could(0)=1 could(1)=2 could(2)=4 could(3)=8 could(4)=16 "
        + "could(5)=32");
  }

  private static void couldNone() {
    Script.run("29 no row", "seen(0,0,9) could(NONE)=0 could(0)=0 could(1)=0 could(2)=0 could(3)=0 could(4)=0 "
        + "could(5)=0");
    Script.run("29 no row: two NAMES of one HULL", "seen(0,0,1) seen(1,0,1) could(NONE)=0 could(0)=0 could(5)=0 "
        + "isFalse()=0");
  }

  private static void couldJustThat() {
    Script.run("Part 4, just that SPEED, no more and no less", "seen(2,0,4) could(3)=4 could(2)=59 could(4)=59 "
        + "could(NONE)=120");
    Script.run("Part 4, just that HOLD, no more and no less", "hull(0,1,4) hull(1,1,6) seen(2,1,4) could(0)=4 "
        + "could(1)=59 could(2)=59 could(NONE)=120");
    Script.run("Part 4, whether it FITS matters not", "fits(0,2)=0 seen(2,0,1) could(0)=4");
  }

  private static void falseNoneAndAll() {
    Script.run("30 none", "isFalse()=0 seen(0,0,1) isFalse()=0");
    Script.run("30 all", "seen(0,0,9) seen(1,0,7) seen(2,1,0) seen(3,1,9) seen(4,1,4) seen(5,1,6) isFalse()=63 "
        + "forget(1)=6 isFalse()=0");
  }

  private static void falseByTheirOwn() {
    Script.run("Part 4, by their own SIGHTINGS", "seen(0,0,1) seen(1,0,1) could(NONE)=0 isFalse()=0");
    Script.run("Part 4, no HULL has both", "hull(0,1,9) seen(3,0,2) seen(3,1,9) isFalse()=8 hull(0,0,2) isFalse()=0");
    Script.run("Part 4, two SPEEDS of one NAME", "seen(5,0,1) seen(5,0,2) isFalse()=32");
  }
}
