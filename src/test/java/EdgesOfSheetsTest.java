import java.math.BigInteger;

/** The boundary cases of promises 31 to 38, and of what the terms say of SHEETS and FINDINGS. */
public final class EdgesOfSheetsTest {
  private static final int[] BITS = {8, 16, 32};

  public static void main(String[] args) {
    sheetNumbers();
    sheetForms();
    sheetSizes();
    sheetBelowZero();
    sheetOrderOfRefusals();
    sheetIsNew();
    lostAtFirst();
    loseNoneAndAll();
    putNumbers();
    putFirstAndLast();
    putOfNoItems();
    putLowestBits();
    putOrderOfRefusals();
    getNumbers();
    getFirstAndLast();
    getOrderOfRefusals();
    getLeastInt();
    copyNumbers();
    copyLost();
    copyUnlikeForms();
    copyBelowZero();
    copyNotSoMany();
    copyNone();
    copyAll();
    copyWithinItself();
    copyWrapAround();
    copyOrderOfRefusals();
    writeNumbers();
    writeYears();
    writeAsManyAsThereAre();
    writeEachForm();
    writeOrderOfRefusals();
    countNumbers();
    countOfNothing();
    countOfFull();
    countLatestFinding();
    findingsAnswers();
    digestOfNewObject();
    digestWraps();
    digestWithFaultAndNot();
    Check.end();
  }

  private static void sheetNumbers() {
    Script.bounds("31 SHEETS 0 to 3", Script.lived(), "sheet(?,0,1)", 0, 3);
    Script.bounds("32 SHEETS 0 to 3", Script.lived() + " sheet(3,0,1)", "lose(?)", 0, 3);
    Script.run("31 each one by itself", "sheet(0,0,1)=1 sheet(3,2,5)=5 lose(1)!NULL lose(2)!NULL lose(3)=5 lose(0)=1");
  }

  private static void sheetForms() {
    Script.bounds("31 FORMS 0 to 2", Script.lived(), "sheet(0,?,1)", 0, 2);
    Script.bounds("33 FORMS 0 to 2", Script.lived(), "put(0,?,0,1)", 0, 2);
    Script.run("34 FORMS 0 to 2", Script.lived() + " get(0,-1,0)!BAD get(0,3,0)!BAD get(0,LEAST,0)!BAD "
        + "get(0,MOST,0)!BAD get(0,0,0)=5 get(0,1,0)!CAST get(0,2,0)!CAST");
  }

  private static void sheetSizes() {
    for (int form = 0; form < 3; form++) {
      String sheet = "sheet(1," + form + ",";
      String item = "(1," + form + ",";
      Script.run("Terms, SHEETS of 0 to 48 items", "sheet(0,0,-1) " + sheet + "0)=0 get" + item + "0)!INDEX " + sheet
        + "1)=1 get"
          + item + "0)=0 get" + item + "1)!INDEX " + sheet + "48)=48 get" + item + "47)=0 get" + item + "48)!INDEX "
        + sheet
          + "49)!BAD " + sheet + "MOST)!BAD lose(1)=48");
    }
  }

  private static void sheetBelowZero() {
    Script.run("31 SIZE", Script.lived() + " sheet(0,0,-1)!SIZE sheet(0,2,-48)!SIZE sheet(2,1,LEAST)!SIZE "
        + "sheet(3,0,-1)!SIZE get(0,0,6)=77 lose(3)!NULL");
  }

  private static void sheetOrderOfRefusals() {
    Script.run("31 BAD; SIZE", Script.lived() + " sheet(4,0,-1)!BAD sheet(-1,0,-1)!BAD sheet(0,3,-1)!BAD "
        + "sheet(0,-1,LEAST)!BAD sheet(4,0,49)!BAD count(8)=4");
  }

  private static void sheetIsNew() {
    Script.run("31 a new row", "fill(0,2,7,8,9) sheet(0,2,3)=3 get(0,2,0)=0 get(0,2,2)=0 fill(0,2,7,8,9) "
        + "sheet(0,1,2)=2 get(0,2,0)!CAST get(0,1,1)=0 get(0,1,2)!INDEX sheet(0,1,3)=3 get(0,1,2)=0");
    Script.run("Terms, 0 at first, also behind a LOST one", "fill(0,2,7,8,9) lose(0)=3 sheet(0,2,3)=3 get(0,2,0)=0 "
        + "get(0,2,2)=0");
    Script.run("31 a refused one leaves the row", "fill(0,2,7,8,9) sheet(0,1,49)!BAD sheet(0,1,-1)!SIZE get(0,2,2)=9");
  }

  private static void lostAtFirst() {
    for (int s = 0; s < 4; s++) {
      Script.run("Terms, LOST at first", "lose(" + s + ")!NULL read(" + s + ")!NULL put(" + s + ",0,0,1)!NULL get(" + s
          + ",0,0)!NULL copy(" + s + ",0," + s + ",0,0)!NULL text(012345) write(0," + s + ")!NULL");
    }
  }

  private static void loseNoneAndAll() {
    Script.run("32 of no items", "sheet(1,2,0)=0 lose(1)=0 lose(1)!NULL");
    Script.run("32 of 48", "sheet(1,2,48)=48 lose(1)=48 lose(1)!NULL get(1,2,0)!NULL");
    Script.run("32 BAD", "lose(-1)!BAD lose(4)!BAD count(8)=0");
  }

  private static void putNumbers() {
    Script.bounds("33 SHEETS 0 to 3", Script.lived() + " sheet(3,0,1)", "put(?,0,0,1)", 0, 3);
  }

  private static void putFirstAndLast() {
    Script.run("33 both ends of 48", "sheet(0,2,48) put(0,2,0,5)=1 put(0,2,47,6)=1 put(0,2,48,7)!INDEX "
        + "put(0,2,-1,8)!INDEX get(0,2,0)=5 get(0,2,1)=0 get(0,2,46)=0 get(0,2,47)=6");
    Script.run("33 both ends of 2", Script.lived() + " put(1,1,1,9)=1 put(1,1,2,9)!INDEX put(1,1,-1,9)!INDEX "
        + "put(1,1,LEAST,9)!INDEX put(1,1,MOST,9)!INDEX get(1,1,0)=-300 get(1,1,1)=9");
    Script.run("33 no item that a larger row had", "sheet(0,2,9) sheet(0,2,3) put(0,2,2,1)=1 put(0,2,3,1)!INDEX "
        + "put(0,2,8,1)!INDEX");
  }

  private static void putOfNoItems() {
    Script.run("33 of no items", Script.lived() + " put(2,2,0,1)!INDEX put(2,2,-1,1)!INDEX get(2,2,0)!INDEX "
        + "put(2,1,0,1)!CAST");
  }

  /** At each edge of what a FORM holds, and around it, by numbers that do not wrap. */
  private static void putLowestBits() {
    for (int form = 0; form < 3; form++) {
      BigInteger around = BigInteger.TWO.pow(BITS[form]);
      BigInteger half = BigInteger.TWO.pow(BITS[form] - 1);
      for (int edge : new int[] {8, 9, 15, 16, 17, 24, 31, 32}) {
        for (int off = -2; off <= 2; off++) {
          for (int sign = -1; sign <= 1; sign += 2) {
            int v = (int) ((1L << edge - 1) * sign + off);
            BigInteger kept = BigInteger.valueOf(v).add(half).mod(around).subtract(half);
            String item = "(3," + form + ",1";
            Script.run("33 the lowest bits, with its sign", "sheet(3," + form + ",3) put" + item + "," + v + ")=1 get"
        + item + ")="
                + kept + " get(3," + form + ",0)=0 get(3," + form + ",2)=0");
          }
        }
      }
    }
    Script.run("33 the edges of each FORM", "fill(0,0,127,128,-128,-129,255,256) get(0,0,0)=127 get(0,0,1)=-128 "
        + "get(0,0,2)=-128 get(0,0,3)=127 get(0,0,4)=-1 get(0,0,5)=0 fill(1,1,32767,32768,-32768,-32769,65535,65536) "
        + "get(1,1,0)=32767 get(1,1,1)=-32768 get(1,1,2)=-32768 get(1,1,3)=32767 get(1,1,4)=-1 get(1,1,5)=0 "
        + "fill(2,2,MOST,LEAST,-1) get(2,2,0)=2147483647 get(2,2,1)=-2147483648 get(2,2,2)=-1");
  }

  private static void putOrderOfRefusals() {
    Script.run("33 BAD; NULL; CAST; INDEX", Script.lived() + " put(4,3,99,1)!BAD put(3,3,99,1)!BAD put(3,-1,0,1)!BAD "
        + "put(-1,0,0,1)!BAD put(3,2,99,1)!NULL put(0,1,99,1)!CAST put(0,2,-1,1)!CAST put(0,0,7,1)!INDEX "
        + "put(0,0,6,1)=1");
    Script.run("33 NULL, whatever it was before", "fill(1,1,4,5) lose(1) put(1,1,0,1)!NULL put(1,2,0,1)!NULL "
        + "put(1,1,9,1)!NULL");
  }

  private static void getNumbers() {
    Script.run("34 SHEETS 0 to 3", Script.lived() + " fill(3,0,8) get(0,0,0)=5 get(3,0,0)=8 get(-1,0,0)!BAD "
        + "get(4,0,0)!BAD get(LEAST,0,0)!BAD get(MOST,0,0)!BAD");
  }

  private static void getFirstAndLast() {
    Script.run("34 both ends", Script.lived() + " get(0,0,0)=5 get(0,0,6)=77 get(0,0,7)!INDEX get(0,0,-1)!INDEX "
        + "get(0,0,LEAST)!INDEX get(0,0,MOST)!INDEX get(0,0,48)!INDEX");
  }

  private static void getOrderOfRefusals() {
    Script.run("34 BAD; NULL; CAST; INDEX", Script.lived() + " get(4,3,99)!BAD get(3,3,99)!BAD get(3,-1,0)!BAD "
        + "get(3,2,99)!NULL get(0,1,99)!CAST get(0,2,-1)!CAST get(0,0,7)!INDEX");
  }

  private static void getLeastInt() {
    Script.run("34 the least int, and count() 8 tells", "sheet(1,1,3) get(4,0,0)=-2147483648 count(8)=0 "
        + "get(0,0,0)=-2147483648 count(8)=1 get(1,0,0)=-2147483648 count(8)=3 get(1,1,3)=-2147483648 count(8)=2 "
        + "get(4,0,0)=-2147483648 count(8)=2");
    Script.run("34 an item that is the least int is no FINDING", "fill(2,2,LEAST) get(2,2,0)=-2147483648 count(8)=0");
  }

  private static void copyNumbers() {
    String before = "fill(0,0,1,2) fill(3,0,3,4) sheet(1,0,1) sheet(2,0,1) sheet(0,0,-1)";
    Script.bounds("35 SHEETS 0 to 3: s", before, "copy(?,0,0,0,1)", 0, 3);
    Script.bounds("35 SHEETS 0 to 3: t", before, "copy(0,0,?,0,1)", 0, 3);
    Script.run("35 from the first to the last one", before + " copy(0,0,3,1,1)=1 get(3,0,0)=3 get(3,0,1)=1 "
        + "get(0,0,0)=1");
  }

  private static void copyLost() {
    Script.run("35 NULL: s, t", Script.lived() + " copy(3,0,0,0,1)!NULL copy(0,0,3,0,1)!NULL copy(3,0,3,0,1)!NULL "
        + "copy(3,0,3,0,0)!NULL copy(0,0,3,0,0)!NULL lose(1) copy(0,0,1,0,1)!NULL copy(1,0,0,0,1)!NULL");
  }

  private static void copyUnlikeForms() {
    for (int from = 0; from < 3; from++) {
      for (int to = 0; to < 3; to++) {
        String answer = from == to ? "=1" : "!STORE";
        Script.run("35 STORE", "fill(0," + from + ",1,2) fill(1," + to + ",3,4) copy(0,0,1,1,1)" + answer
        + " copy(0,0,1,0,0)" + answer);
      }
    }
  }

  private static final String TWO_SHEETS = "fill(0,1,1,2,3) fill(1,1,4,5,6,7,8) sheet(0,0,-1) ";

  private static void copyBelowZero() {
    Script.run("35 INDEX: i, j or n below 0", TWO_SHEETS + "copy(0,-1,1,0,1)!INDEX copy(0,0,1,-1,1)!INDEX "
        + "copy(0,0,1,0,-1)!INDEX copy(0,-1,1,0,0)!INDEX copy(0,0,1,-1,0)!INDEX copy(0,3,1,3,-1)!INDEX "
        + "copy(0,LEAST,1,0,0)!INDEX copy(0,0,1,LEAST,0)!INDEX copy(0,0,1,0,LEAST)!INDEX copy(0,0,1,0,1)=1");
  }

  private static void copyNotSoMany() {
    Script.run("35 INDEX: not so many there, in s", TWO_SHEETS + "copy(0,0,1,0,4)!INDEX copy(0,1,1,0,3)!INDEX "
        + "copy(0,2,1,0,2)!INDEX copy(0,3,1,0,1)!INDEX copy(0,0,1,0,3)=1 copy(0,1,1,0,2)=1 copy(0,2,1,0,1)=1");
    Script.run("35 INDEX: not so many there, in t", TWO_SHEETS + "copy(1,0,0,0,4)!INDEX copy(1,0,0,1,3)!INDEX "
        + "copy(1,0,0,2,2)!INDEX copy(1,0,0,3,1)!INDEX copy(1,0,0,0,3)=1 copy(1,0,0,1,2)=1 copy(1,0,0,2,1)=1");
    Script.run("35 INDEX: of 48", "sheet(0,0,48) copy(0,0,0,0,48)=1 copy(0,0,0,1,48)!INDEX copy(0,1,0,0,48)!INDEX "
        + "copy(0,0,0,0,49)!INDEX");
  }

  private static void copyNone() {
    Script.run("35 of n 0, too: i or j above the size", TWO_SHEETS + "copy(0,3,1,5,0)=1 copy(0,0,1,0,0)=1 "
        + "copy(0,4,1,0,0)!INDEX copy(0,0,1,6,0)!INDEX copy(0,4,1,6,0)!INDEX copy(0,3,1,6,0)!INDEX "
        + "copy(0,4,1,5,0)!INDEX copy(0,MOST,1,0,0)!INDEX copy(0,0,1,MOST,0)!INDEX get(1,1,0)=4 get(1,1,4)=8");
    Script.run("35 of SHEETS of no items", "sheet(0,0,0) sheet(1,0,0) copy(0,0,1,0,0)=1 copy(0,0,0,0,0)=1 "
        + "copy(0,1,1,0,0)!INDEX copy(0,0,1,1,0)!INDEX copy(0,0,1,0,1)!INDEX");
  }

  private static void copyAll() {
    Script.run("35 all", TWO_SHEETS + "copy(0,0,1,0,3)=1 get(1,1,0)=1 get(1,1,2)=3 get(1,1,3)=7 get(1,1,4)=8");
    Script.run("35 to the end", TWO_SHEETS + "copy(0,0,1,2,3)=1 get(1,1,1)=5 get(1,1,2)=1 get(1,1,4)=3");
    Script.run("35 the last one", TWO_SHEETS + "copy(1,4,0,2,1)=1 get(0,1,1)=2 get(0,1,2)=8 get(1,1,4)=8");
  }

  private static void copyWithinItself() {
    Script.run("35 perhaps s, as they were: later", TWO_SHEETS + "copy(1,0,1,1,4)=1 get(1,1,0)=4 get(1,1,1)=4 "
        + "get(1,1,2)=5 get(1,1,3)=6 get(1,1,4)=7");
    Script.run("35 perhaps s, as they were: earlier", TWO_SHEETS + "copy(1,1,1,0,4)=1 get(1,1,0)=5 get(1,1,1)=6 "
        + "get(1,1,2)=7 get(1,1,3)=8 get(1,1,4)=8");
    Script.run("35 perhaps s, as they were: to the same place", TWO_SHEETS + "copy(1,0,1,0,5)=1 get(1,1,0)=4 "
        + "get(1,1,4)=8");
  }

  private static void copyWrapAround() {
    Script.run("35 no sum wraps", TWO_SHEETS + "copy(0,MOST,1,0,1)!INDEX copy(0,0,1,MOST,1)!INDEX "
        + "copy(0,0,1,0,MOST)!INDEX copy(0,1,1,0,MOST)!INDEX copy(0,0,1,1,MOST)!INDEX copy(0,MOST,1,MOST,MOST)!INDEX "
        + "copy(0,MOST,1,0,2)!INDEX copy(0,MOST,1,0,MOST)!INDEX copy(0,LEAST,1,LEAST,LEAST)!INDEX "
        + "copy(0,LEAST,1,0,MOST)!INDEX copy(0,MOST,1,0,LEAST)!INDEX");
  }

  private static void copyOrderOfRefusals() {
    Script.run("35 BAD; NULL; STORE; INDEX", Script.lived() + " copy(4,-1,3,-1,-1)!BAD copy(3,-1,4,-1,-1)!BAD "
        + "copy(-1,0,0,0,1)!BAD copy(0,0,-1,0,1)!BAD copy(3,-1,0,-1,-1)!NULL copy(0,-1,3,-1,-1)!NULL "
        + "copy(0,-1,1,-1,-1)!STORE copy(0,99,1,0,0)!STORE copy(0,0,1,0,99)!STORE copy(0,0,0,1,7)!INDEX");
    Script.run("35 NULL ahead of STORE, whatever it was before", "fill(0,0,1) fill(1,1,1) lose(1) "
        + "copy(0,0,1,0,1)!NULL copy(1,0,0,0,1)!NULL");
  }

  private static void writeNumbers() {
    Script.bounds("36 SHEETS 0 to 3", Script.lived() + " sheet(3,0,1)", "write(0,?)", 0, 3);
  }

  private static void writeYears() {
    Script.bounds("36 three YEARS", Script.lived(), "write(?,0)", 0, 2);
    Script.bounds("36 twelve YEARS", "sheet(0,0,6) text(" + Script.years(12) + ")", "write(?,0)", 0, 11);
    Script.run("36 no YEAR", "sheet(0,0,6) write(0,0)!BAD text(012345) write(0,0)=6 type(59) write(0,0)!BAD");
    Script.run("36 the first and the twelfth", "sheet(0,0,6) text(" + Script.years(12) + ") write(0,0)=6 get(0,0,0)=1 "
        + "get(0,0,5)=4 write(11,0)=6 get(0,0,0)=5 get(0,0,5)=0");
  }

  private static void writeAsManyAsThereAre() {
    Script.run("36 of 0 items", "text(301254) sheet(0,0,0) write(0,0)=0 lose(0)=0");
    Script.run("36 of 1 item", "text(301254) fill(0,0,9) write(0,0)=1 get(0,0,0)=3 lose(0)=1");
    Script.run("36 of 5 items", "text(301254) fill(0,0,9,9,9,9,9) write(0,0)=5 get(0,0,0)=3 get(0,0,4)=5 lose(0)=5");
    Script.run("36 of 6 items", "text(301254) fill(0,0,9,9,9,9,9,9) write(0,0)=6 get(0,0,0)=3 get(0,0,5)=4 lose(0)=6");
    Script.run("36 six at most", "text(301254) fill(0,0,9,9,9,9,9,9,9) write(0,0)=6 get(0,0,5)=4 get(0,0,6)=9 "
        + "lose(0)=7");
    Script.run("36 six at most of 48", "text(301254) sheet(0,0,48) put(0,0,6,9) put(0,0,47,9) write(0,0)=6 "
        + "get(0,0,6)=9 get(0,0,47)=9");
  }

  private static void writeEachForm() {
    for (int form = 0; form < 3; form++) {
      String get = " get(2," + form + ",";
      Script.run("36 FORM " + form, "text(301254) fill(2," + form + ",-1,-1,-1,-1,-1,-1) write(0,2)=6" + get + "0)=3"
        + get + "1)=0" + get
          + "2)=1" + get + "3)=2" + get + "4)=5" + get + "5)=4 read(2)=13");
    }
  }

  private static void writeOrderOfRefusals() {
    Script.run("36 BAD; NULL", Script.lived() + " write(3,3)!BAD write(-1,3)!BAD write(0,4)!BAD write(0,-1)!BAD "
        + "write(2,3)!NULL");
    Script.run("36 BAD; NULL, of no YEAR", "write(0,0)!BAD write(0,4)!BAD");
  }

  private static void countNumbers() {
    Script.bounds("37 what 0 to 8", Script.lived(), "count(?)", 0, 8);
  }

  private static void countOfNothing() {
    Script.run("37 of a new object", "count(0)=0 count(1)=0 count(2)=0 count(3)=0 count(4)=24 count(5)=0 count(6)=0 "
        + "count(7)=0 count(8)=0");
    Script.run("37 pairs that FIT: none", "name(0,0,9) name(1,0,9) name(2,0,9) name(3,0,9) name(4,0,9) count(4)=4 "
        + "name(5,0,9) count(4)=0");
    Script.run("37 pairs that FIT: all", "hull(0,0,3) count(4)=30 hull(1,0,3) count(4)=36");
  }

  private static void countOfFull() {
    StringBuilder full = new StringBuilder("text(" + Script.years(12) + ") ");
    for (int k = 0; k < 12; k++) {
      full.append("claim(0,0,1) ");
    }
    for (int k = 0; k < 8; k++) {
      full.append("seen(0,0,1) ");
    }
    Script.run("37 of a full one", full + "count(0)=12 count(1)=83 count(2)=12 count(3)=8 text(;543210) count(0)=0 "
        + "count(1)=90 count(5)=0 count(6)=0 count(7)=0 count(2)=12 count(3)=8");
    Script.run("37 all PURSES and all DEBTS are all FEES", "text(012345) count(5)=18 count(6)=3 count(7)=2 "
        + "text(;543210) count(5)=28 count(6)=14 count(7)=4");
  }

  private static void countLatestFinding() {
    Script.run("37 0 before any", "count(8)=0 lose(4)!BAD type(256)!BAD read(-1)!BAD chance(0,0,0)!NOT count(8)=0");
    Script.run("37 the latest", "lose(0)=NULL count(8)=1 sheet(0,0,1) count(8)=1 put(0,0,1,1)=INDEX count(8)=2 "
        + "put(0,1,0,1)=CAST count(8)=3 sheet(1,1,1) copy(0,0,1,0,1)=STORE count(8)=4 sheet(0,0,-1)=SIZE count(8)=5 "
        + "lose(3)=NULL count(8)=1");
    Script.run("37 no other call changes it", Script.lived() + " count(8)=4 wipe() count(8)=4 forget(0) forget(1) "
        + "digest() sheet(0,0,1) put(0,0,0,1) get(0,0,0) copy(0,0,0,0,1) lose(0) read(2)!NOT claim(0,0,0)!BAD "
        + "count(9)!BAD count(8)=4");
  }

  private static void findingsAnswers() {
    Script.run("Terms, FINDINGS answer -10 less the number", "lose(0)=-11 sheet(0,0,1) put(0,0,1,1)=-12 "
        + "put(0,1,0,1)=-13 sheet(1,1,1) copy(0,0,1,0,1)=-14 sheet(0,0,-1)=-15");
    Script.run("Terms, refusals", "fits(6,0)=-2 sheet(0,0,0) read(0)=-3 bytes(90,48) type(48)=-4 home(0)=-1");
  }

  /** Worked out apart from Java, from the answers that the document asks of a new object. */
  private static void digestOfNewObject() {
    Script.run("38 of a new object", "digest()=6885790524183495064");
  }

  private static String[] digestCalls(int years) {
    StringBuilder calls = new StringBuilder();
    for (int what = 0; what <= 7; what++) {
      calls.append("count(").append(what).append(") ");
    }
    calls.append("fault() ");
    String ofHull = "purse(H,Y) been(H,Y) home(H) other(H,N) sound(H) chance(H,H,0) chance(H,H,1) ahead(H,0) "
        + "ahead(H,1) best(H) lot(7,H) owed(H,0) owed(H,1) owed(H,2) could(H) ";
    String all = Integer.toString(years);
    for (int hull = 0; hull < 6; hull++) {
      String next = Integer.toString(hull == 5 ? 0 : hull + 1);
      calls.append(ofHull.replace("H", Integer.toString(hull)).replace("Y", all).replace("N", next));
    }
    for (int name = 0; name < 6; name++) {
      calls.append("debt(N,Y,0) debt(N,Y,1) ".replace("N", Integer.toString(name)).replace("Y", all));
    }
    for (int year = 0; year < years; year++) {
      calls.append("rather(Y) returns(Y,-1) on(Y,0,5) ".replace("Y", Integer.toString(year)));
    }
    return (calls + "sound(-1) best(-1) could(-1) disputed() isFalse()").split(" ");
  }

  /** By numbers that do not wrap, of which the lowest 64 bits are taken at the end alone. */
  private static void digestIs(String label, String before, int years) {
    Session session = new Session();
    for (String call : before.trim().split("\\s+")) {
      session.call(call);
    }
    BigInteger h = BigInteger.valueOf(17);
    for (String call : digestCalls(years)) {
      h = h.multiply(BigInteger.valueOf(31)).add(BigInteger.valueOf(session.call(call)));
    }
    Check.due(label, session.call("digest()"), h.longValue());
  }

  private static void digestWraps() {
    digestIs("38 as longs that wrap, of a new one", "count(0)", 0);
    digestIs("38 as longs that wrap, with one YEAR", "text(120354)", 1);
    digestIs("38 as longs that wrap, of one that has lived", Script.lived(), 3);
    digestIs("38 as longs that wrap, with twelve YEARS", "text(" + Script.years(12) + ") claim(0,11,99) claim(5,0,1) "
        + "seen(0,0,1)", 12);
    digestIs("38 as longs that wrap, with NAMES that are FALSE", "text(120354) claim(0,0,9) seen(2,0,9) seen(5,1,4)", 1);
    digestIs("38 as longs that wrap, all SOUND", "name(0,0,1) name(1,0,1) name(2,0,1) name(3,0,1) name(4,0,1) "
        + "name(5,0,1)", 0);
  }

  private static void digestWithFaultAndNot() {
    digestIs("38 with a FAULT", "text(120354;)", 0);
    digestIs("38 with a thirteenth YEAR", "text(" + Script.years(12) + ";012345) claim(0,0,9)", 0);
    Script.run("38 count() 8 and SHEETS are not in it", "digest()=6885790524183495064 lose(0)=NULL fill(1,0,1,2,3) "
        + "digest()=6885790524183495064");
  }
}
