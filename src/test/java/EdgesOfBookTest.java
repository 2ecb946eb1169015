/** The boundary cases of promises 1 to 9, and of what the terms say of HULLS, NAMES and THE BOOK. */
public final class EdgesOfBookTest {
  public static void main(String[] args) {
    newObject();
    hullsAndNamesAreSix();
    speed();
    hold();
    way();
    load();
    fee();
    whatOfHullAndName();
    fitsAtEqual();
    typedBytes();
    ninetyBytes();
    wiped();
    emptyIsWell();
    unendedYear();
    wrongByte();
    nameTwice();
    firstFaultOfTwo();
    twelveYears();
    thirteenthYear();
    asIfEmpty();
    asIfEmptyByEachFault();
    readSheetNumber();
    readLost();
    readFewerItems();
    readEachNameOnce();
    readFirstSixAlone();
    readSemicolon();
    readRoom();
    readOrderOfRefusals();
    readThirteenth();
    borneYears();
    Check.end();
  }

  private static void newObject() {
    Script.run("1 An empty BOOK", "fault()=NONE count(0)=0 count(1)=0 borne(0,0)!BAD wipe()=0");
    Script.run("1 all SHEETS are LOST", "lose(0)!NULL lose(1)!NULL lose(2)!NULL lose(3)!NULL");
    Script.run("1 no CLAIMS, no SIGHTINGS, no FINDING", "count(2)=0 count(3)=0 count(8)=0 forget(0)=0 forget(1)=0");
  }

  private static void hullsAndNamesAreSix() {
    String before = Script.lived();
    String[] calls = {"hull(?,0,3)", "name(?,0,3)", "fits(?,0)", "fits(0,?)", "borne(?,0)"};
    for (String call : calls) {
      Script.ship("Terms, HULLS and NAMES 0 to 5", before, call);
    }
    for (int k = 0; k < 6; k++) {
      String hull = "hull(" + k + ",";
      String name = "name(" + k + ",";
      Script.run("Terms, at first", hull + "0,9)=" + (k + 1) + " " + hull + "1,9)=5 " + name + "0,9)=3 " + name
        + "1,9)=5 "
          + name + "2,9)=" + (k + 1));
    }
  }

  private static void speed() {
    Script.bounds("Terms, SPEED 1 to 9", Script.lived(), "hull(3,0,?)", 1, 9);
    Script.run("Terms, SPEED 1 to 9", "hull(3,0,1)=4 hull(3,0,9)=1 hull(3,0,0)!BAD hull(3,0,10)!BAD hull(3,0,5)=9");
  }

  private static void hold() {
    Script.bounds("Terms, HOLD 0 to 9", Script.lived(), "hull(3,1,?)", 0, 9);
    Script.run("Terms, HOLD 0 to 9", "hull(3,1,0)=5 hull(3,1,9)=0 hull(3,1,-1)!BAD hull(3,1,10)!BAD hull(3,1,5)=9");
  }

  private static void way() {
    Script.bounds("Terms, WAY 1 to 9", Script.lived(), "name(4,0,?)", 1, 9);
    Script.run("Terms, WAY 1 to 9", "name(4,0,1)=3 name(4,0,9)=1 name(4,0,0)!BAD name(4,0,10)!BAD name(4,0,5)=9");
  }

  private static void load() {
    Script.bounds("Terms, LOAD 0 to 9", Script.lived(), "name(4,1,?)", 0, 9);
    Script.run("Terms, LOAD 0 to 9", "name(4,1,0)=5 name(4,1,9)=0 name(4,1,-1)!BAD name(4,1,10)!BAD name(4,1,5)=9");
  }

  private static void fee() {
    Script.bounds("Terms, FEE 0 to 9", Script.lived(), "name(4,2,?)", 0, 9);
    Script.run("Terms, FEE 0 to 9", "name(4,2,0)=5 name(4,2,9)=0 name(4,2,-1)!BAD name(4,2,10)!BAD name(4,2,5)=9");
  }

  private static void whatOfHullAndName() {
    Script.bounds("2 what 0, 1", Script.lived(), "hull(0,?,3)", 0, 1);
    Script.bounds("3 what 0 to 2", Script.lived(), "name(0,?,3)", 0, 2);
    Script.run("2 one thing alone", "hull(0,0,7)=1 hull(0,1,6)=5 hull(0,0,1)=7 hull(1,0,2)=2 hull(1,1,5)=5 "
        + "name(0,0,3)=3");
    Script.run("3 one thing alone", "name(0,0,7)=3 name(0,1,6)=5 name(0,2,8)=1 name(0,0,3)=7 name(0,1,5)=6 "
        + "name(1,2,2)=2 hull(0,0,1)=1 hull(0,1,5)=5");
  }

  private static void fitsAtEqual() {
    Script.run("4 SPEED is the WAY or more", "hull(0,0,4) name(1,0,4) fits(0,1)=1 hull(0,0,3) fits(0,1)=0 hull(0,0,5) "
        + "fits(0,1)=1 hull(0,0,9) name(1,0,9) fits(0,1)=1 hull(0,0,8) fits(0,1)=0 hull(0,0,1) name(1,0,1) fits(0,1)=1 "
        + "name(1,0,2) fits(0,1)=0");
    Script.run("4 HOLD the LOAD or more", "hull(5,1,4) name(1,1,4) fits(5,1)=1 hull(5,1,3) fits(5,1)=0 hull(5,1,9) "
        + "name(1,1,9) fits(5,1)=1 hull(5,1,8) fits(5,1)=0 hull(5,1,0) name(1,1,0) fits(5,1)=1 name(1,1,1) "
        + "fits(5,1)=0");
    Script.run("4 and: both", "fits(2,0)=1 hull(2,0,2) fits(2,0)=0 hull(2,1,4) fits(2,0)=0 hull(2,0,3) fits(2,0)=0");
  }

  private static void typedBytes() {
    Script.bounds("5 a byte, 0 to 255", Script.lived(), "type(?)", 0, 255);
    Script.run("5 a byte is not a figure by its lowest bits", "type(304)!BAD type(-208)!BAD type(48)=1 fault()=1");
    Script.run("5 bytes at both ends", "type(0)=1 type(255)=2 fault()=0 count(1)=2");
  }

  private static void ninetyBytes() {
    Script.run("5 up to 90 bytes", "bytes(89,48)=89 type(59)=90 type(48)!FULL type(0)!FULL type(255)!FULL count(1)=90 "
        + "wipe()=90 type(48)=1");
    Script.run("5 BAD ahead of FULL", "bytes(90,59)=90 type(-1)!BAD type(256)!BAD type(LEAST)!BAD type(MOST)!BAD");
    Script.run("5 a full one of which 83 bytes would be well", "text(" + Script.years(12) + ";543210)=90 type(59)!FULL "
        + "fault()=84 count(0)=0");
  }

  private static void wiped() {
    Script.run("6 of an empty one", "wipe()=0 wipe()=0 fault()=NONE");
    Script.run("6 of a full one", "bytes(90,48)=90 wipe()=90 count(1)=0 fault()=NONE wipe()=0");
    Script.run("6 of one with a FAULT", "text(012345;5) fault()=8 wipe()=8 fault()=NONE count(0)=0 text(543210) "
        + "borne(0,0)=5");
    Script.run("6 of one byte", "type(48) wipe()=1 type(49)=1");
    Script.run("6 nothing else is", Script.lived() + " wipe()=20 count(2)=4 count(3)=2 count(8)=4 lose(0)=7 lose(2)=0 "
        + "hull(0,0,1)=4 name(5,2,1)=9 text(" + Script.years(3) + ") owed(0,0)=9");
  }

  private static void faultOf(String label, String text, int want) {
    SailAsAnother x = new SailAsAnother();
    Check.type(x, text);
    Check.due(label + ": fault() of " + text, x.fault(), want);
    Check.due(label + ": YEARS of " + text, x.count(0), want == -1 ? (text.length() + 1) / 7 : 0);
    Check.due(label + ": bytes of " + text, x.count(1), text.length());
  }

  private static void emptyIsWell() {
    Script.run("Terms, an empty one is well", "fault()=NONE count(0)=0");
    Script.run("Terms, an empty one again is well", "type(120) fault()=0 wipe()=1 fault()=NONE");
  }

  /** Each beginning of twelve YEARS: it is well behind a sixth figure, else its end is the FAULT. */
  private static void unendedYear() {
    String twelve = Script.years(12);
    for (int length = 1; length <= twelve.length(); length++) {
      int want = length % 7 == 6 ? -1 : length;
      faultOf("Terms, of a YEAR that is not ended, its end", twelve.substring(0, length), want);
    }
  }

  /** At each place of twelve YEARS each byte next to those that may stand there, and both ends of the bytes. */
  private static void wrongByte() {
    String twelve = Script.years(12);
    String noFigures = "/6:;<\u0000\u00ff\u00b0 9";
    String noSemicolons = ":<05\u0000\u00ff\u00bb ,";
    for (int place = 0; place < twelve.length(); place++) {
      String wrong = place % 7 == 6 ? noSemicolons : noFigures;
      for (char c : wrong.toCharArray()) {
        String text = twelve.substring(0, place) + c + twelve.substring(place + 1);
        faultOf("Terms, the first byte with which it cannot go on", text, place);
        faultOf("Terms, such a byte at the end", text.substring(0, place + 1), place);
      }
    }
  }

  private static void nameTwice() {
    for (int first = 0; first < 6; first++) {
      for (int again = first + 1; again < 6; again++) {
        StringBuilder year = new StringBuilder("301254");
        year.setCharAt(again, year.charAt(first));
        faultOf("Terms, a NAME that is borne already", year.toString(), again);
        faultOf("Terms, a NAME that is borne already, YEAR 1", "012345;" + year, 7 + again);
        faultOf("Terms, a NAME that is borne already, YEAR 11", Script.years(11) + ";" + year, 77 + again);
      }
    }
    faultOf("Terms, each NAME once in a YEAR, but in each YEAR", "000000", 1);
    faultOf("Terms, a seventh figure is no NAME more", "0123450", 6);
  }

  private static void firstFaultOfTwo() {
    faultOf("Terms, the first of two", "01x3x5", 2);
    faultOf("Terms, a NAME twice ahead of a wrong byte", "0113x5", 2);
    faultOf("Terms, a wrong byte ahead of a NAME twice", "01x1", 2);
    faultOf("Terms, a wrong byte ahead of an end", "01234x", 5);
    faultOf("Terms, a wrong byte ahead of a thirteenth YEAR", "x" + Script.years(12).substring(1) + ";0", 0);
  }

  private static void twelveYears() {
    Script.run("Terms, 12 YEARS at most", "text(" + Script.years(11) + ") count(0)=11 borne(0,11)!BAD text(;543210)=83 "
        + "fault()=NONE count(0)=12 borne(0,11)=5 borne(5,11)=0 borne(0,12)!BAD");
  }

  private static void thirteenthYear() {
    String twelve = Script.years(12);
    String thirteenth = ";012345";
    for (int length = 1; length <= thirteenth.length(); length++) {
      faultOf("Terms, the first byte of a thirteenth YEAR", twelve + thirteenth.substring(0, length), 84);
    }
    faultOf("Terms, also where it could not go on", twelve + ";x", 84);
    faultOf("Terms, also where it could not go on later", twelve + ";00", 84);
    faultOf("Terms, no ; ahead of it", twelve + "0", 83);
    faultOf("Terms, no ; ahead of it, full", twelve + "012345;", 83);
    faultOf("Terms, a twelfth one that is not ended", twelve.substring(0, 82), 82);
  }

  private static final String CALLS_OF_NO_YEAR = " count(0)=0 borne(0,0)!BAD purse(5,0)=0 purse(5,1)!BAD debt(0,0,0)=0 "
      + "debt(0,0,1)=0 debt(0,1,0)!BAD been(0,0)=0 been(0,1)!BAD home(3)=NONE other(4,5)=NONE rather(0)!BAD "
        + "on(0,0,0)!BAD returns(0,0)!BAD returns(0,NONE)!BAD owed(0,0)=0 owed(0,1)=0 owed(1,1)=0 owed(0,2)=0 "
      + "lightest(0)=0 disputed()=0 write(0,0)!BAD count(5)=0 count(6)=0 count(7)=0 ";
  private static final String CLAIMED = "claim(0,0,9) claim(3,0,9) claim(4,0,8) sheet(0,0,6) ";

  private static void asIfEmpty() {
    Script.run("Terms, an empty BOOK has no YEAR", CLAIMED + CALLS_OF_NO_YEAR);
    Script.run("Terms, with a FAULT it is as if it was empty", CLAIMED + "text(120354) count(0)=1 home(3)=0 "
        + "disputed()=2 "
        + "type(59)=7" + CALLS_OF_NO_YEAR + "fault()=7 count(1)=7 text(012345)=13 count(0)=2 home(3)=0 disputed()=2 "
        + "borne(4,0)=5");
    Script.run("Terms, but its bytes are there", "text(120354;) count(1)=7 type(48)=8 wipe()=8 wipe()=0");
  }

  private static void asIfEmptyByEachFault() {
    String[] faulty = {"120354;", "120354;0", "120354;x", "120354;00", "1203544", "120355", "12035", "x120354",
        Script.years(12) + ";", Script.years(12) + ";012345", Script.years(12) + "x"};
    for (String text : faulty) {
      Script.run("Terms, as if it was empty, of " + text, CLAIMED + "text(" + text + ")" + CALLS_OF_NO_YEAR);
    }
  }

  private static void readSheetNumber() {
    String before = "fill(0,0,0,1,2,3,4,5) fill(3,2,5,4,3,2,1,0) sheet(1,0,-1)";
    Script.bounds("8 SHEETS 0 to 3", before, "read(?)", 0, 3);
    Script.run("8 SHEETS 0 and 3", before + " read(0)=6 read(3)=13 borne(0,0)=0 borne(0,1)=5");
  }

  private static void readLost() {
    Script.run("8 NULL", Script.lived() + " read(3)!NULL lose(0)=7 read(0)!NULL");
  }

  private static void readFewerItems() {
    for (int form = 0; form < 3; form++) {
      String sheet = "(1," + form + ",";
      Script.run("8 NOT: it has fewer items", "sheet(3,0,-1) sheet" + sheet + "0) read(1)!NOT fill" + sheet
          + "0,1,2,3,4) read(1)!NOT fill" + sheet + "0,1,2,3,4,5) read(1)=6 count(8)=5");
    }
  }

  private static void readEachNameOnce() {
    for (int a = 0; a < 6; a++) {
      for (int b = 0; b < 6; b++) {
        if (a != b) {
          Script.run("8 NOT: a NAME twice", "fill(2,1,5,3,1,0,2,4) copy(2," + a + ",2," + b + ",1) read(2)!NOT");
        }
      }
      for (int wrong : new int[] {-1, 6, 32 + a, 48 + a, Integer.MIN_VALUE, Integer.MAX_VALUE}) {
        Script.run("8 NOT: no NAME", "fill(2,2,5,3,1,0,2,4) put(2,2," + a + "," + wrong + ")=1 read(2)!NOT");
      }
    }
    Script.run("8 by what the items became", "fill(0,0,256,257,258,259,260,261) read(0)=6 borne(5,0)=5");
  }

  private static void readFirstSixAlone() {
    Script.run("8 its first six items", "fill(0,0,0,1,2,3,4,5,5,-1) read(0)=6 fill(0,0,0,0,1,2,3,4,5) read(0)!NOT "
        + "fill(0,0,6,0,1,2,3,4,5) read(0)!NOT count(1)=6");
    Script.run("8 of 48", "sheet(0,2,48) put(0,2,0,5) put(0,2,1,4) put(0,2,2,3) put(0,2,3,2) put(0,2,4,1) read(0)=6 "
        + "borne(0,0)=5 borne(5,0)=0");
  }

  private static void readSemicolon() {
    Script.run("8 no ; ahead of the first", "fill(0,0,0,1,2,3,4,5) read(0)=6 read(0)=13 wipe()=13 read(0)=6 "
        + "fault()=NONE");
    Script.run("8 ; if there are bytes, also with a FAULT", "fill(0,0,0,1,2,3,4,5) type(48) read(0)=8 fault()=1 wipe() "
        + "text(012345;) read(0)=14 fault()=7");
  }

  private static void readRoom() {
    for (int bytes = 82; bytes <= 90; bytes++) {
      String answer = bytes <= 83 ? "=" + (bytes + 7) : "!FULL";
      Script.run("8 FULL: there is no room", "fill(0,0,0,1,2,3,4,5) bytes(" + bytes + ",120) read(0)" + answer);
    }
  }

  private static void readOrderOfRefusals() {
    Script.run("8 BAD; NULL; NOT; FULL", "bytes(90,120) fill(0,0,0,1,2,3,4) fill(1,0,0,1,2,3,4,4) "
        + "fill(2,0,0,1,2,3,4,5) read(4)!BAD read(-1)!BAD read(3)!NULL read(0)!NOT read(1)!NOT read(2)!FULL");
  }

  private static void readThirteenth() {
    Script.run("8 a twelfth and a thirteenth YEAR", "fill(0,0,0,1,2,3,4,5) text(" + Script.years(11) + ") read(0)=83 "
        + "count(0)=12 borne(5,11)=5 read(0)=90 fault()=84 count(0)=0 read(0)!FULL");
  }

  private static void borneYears() {
    Script.run("9 no YEAR", "borne(0,0)!BAD borne(0,-1)!BAD borne(5,1)!BAD");
    Script.bounds("9 one YEAR", "text(012345)", "borne(0,?)", 0, 0);
    Script.bounds("9 three YEARS", Script.lived(), "borne(0,?)", 0, 2);
    Script.bounds("9 twelve YEARS", "text(" + Script.years(12) + ")", "borne(0,?)", 0, 11);
    Script.run("9 both ends", "text(" + Script.years(12) + ") borne(0,0)=1 borne(5,0)=4 borne(0,11)=5 borne(5,11)=0");
  }
}
