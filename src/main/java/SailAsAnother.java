import java.util.Arrays;

/**
 * A harbour of six ships that draw lots for one another's names each year, and sail, earn and owe
 * as that one. What each call promises stands, by number, in DOC.md.
 */
public final class SailAsAnother {
  public static final int NONE = -1, BAD = -2, NOT = -3, FULL = -4;

  private static final int SHIPS = 6;
  private static final int EVERY_NAME = (1 << SHIPS) - 1;
  private static final int MOST_YEARS = 12;
  private static final int MOST_TIMES = 999;
  /** No row of six NAMES needs more times than there are rows. */
  private static final int ROWS = 720;

  private static final int SPEED = 0, HOLD = 1, HULL_TRAITS = 2;
  private static final int WAY = 0, LOAD = 1, FEE = 2, NAME_TRAITS = 3;
  private static final int MOST_OF_A_TRAIT = 9;

  private static final int LAWS = 3;
  private static final int MOST_HARM = 99;

  private static final int SHEETS = 4, MOST_ITEMS = 48;
  private static final int BYTES = 0, SHORTS = 1, FORMS = 3;
  private static final int NO_FINDING = 0, NULL = 1, INDEX = 2, CAST = 3, STORE = 4, SIZE = 5;

  private static final int LEAST_INT = -2147483648;
  private static final long LEAST_LONG = -9223372036854775808L;

  private final Harbour harbour = new Harbour();
  private final Book book = new Book();
  private final Voyages voyages = new Voyages(harbour, book);
  private final Claims claims = new Claims(book);
  private final Sightings sightings = new Sightings(harbour);
  private final Draw draw = new Draw();
  private final BestDraw bestDraw = new BestDraw(harbour);
  private final Sheet[] sheets = new Sheet[SHEETS];
  private int latestFinding = NO_FINDING;

  public SailAsAnother() {
    for (int s = 0; s < SHEETS; s++) {
      sheets[s] = new Sheet();
    }
  }

  // ---- hulls, names, the book

  public int hull(int hull, int what, int v) {
    if (!isShip(hull) || !isBelow(what, HULL_TRAITS) || !isTrait(what, v)) {
      return BAD;
    }
    int was = harbour.hulls[what][hull];
    harbour.hulls[what][hull] = v;
    return was;
  }

  public int name(int name, int what, int v) {
    if (!isShip(name) || !isBelow(what, NAME_TRAITS) || !isTrait(what, v)) {
      return BAD;
    }
    int was = harbour.names[what][name];
    harbour.names[what][name] = v;
    return was;
  }

  public int fits(int hull, int name) {
    if (!isShip(hull) || !isShip(name)) {
      return BAD;
    }
    return harbour.suits(hull, name) ? 1 : 0;
  }

  public int type(int b) {
    if (!isBelow(b, 256)) {
      return BAD;
    }
    if (book.room() < 1) {
      return FULL;
    }
    book.append(b);
    return book.length;
  }

  public int wipe() {
    return book.clear();
  }

  public int fault() {
    return book.faultPlace;
  }

  public int read(int s) {
    if (!isBelow(s, SHEETS)) {
      return BAD;
    }
    Sheet sheet = sheets[s];
    if (sheet.lost) {
      return found(NULL);
    }
    if (!sheet.holdsYear()) {
      return NOT;
    }
    if (book.room() < book.bytesForYear()) {
      return FULL;
    }
    book.appendYear(sheet);
    return book.length;
  }

  public int borne(int hull, int year) {
    if (!isShip(hull) || !isYear(year)) {
      return BAD;
    }
    return book.nameOf(hull, year);
  }

  // ---- years

  public int purse(int hull, int k) {
    if (!isShip(hull) || !isSpan(k)) {
      return BAD;
    }
    return voyages.earnedBy(hull, k);
  }

  public int debt(int name, int k, int what) {
    if (!isShip(name) || !isSpan(k) || !isBelow(what, 2)) {
      return BAD;
    }
    return what == 0 ? voyages.debtOf(name, k) : voyages.shameOf(name, k);
  }

  public int been(int hull, int k) {
    if (!isShip(hull) || !isSpan(k)) {
      return BAD;
    }
    return voyages.namesBorne(hull, k);
  }

  public int home(int hull) {
    if (!isShip(hull)) {
      return BAD;
    }
    return voyages.firstYearAs(hull, hull);
  }

  public int other(int a, int b) {
    if (!isShip(a) || !isShip(b) || a == b) {
      return BAD;
    }
    return voyages.firstYearAs(a, b);
  }

  // ---- lots

  public int sound(int hull) {
    if (hull != NONE && !isShip(hull)) {
      return BAD;
    }
    drawSound();
    return hull == NONE ? draw.rows() : draw.firstRowName(hull);
  }

  public long chance(int hull, int name, int what) {
    if (!isShip(hull) || !isShip(name) || !isBelow(what, 2)) {
      return refusal(BAD);
    }
    drawSound();
    int rows = draw.rows();
    if (rows == 0) {
      return refusal(NOT);
    }
    return fraction(draw.rowsWith(hull, name), rows, what);
  }

  public long ahead(int hull, int what) {
    if (!isShip(hull) || !isBelow(what, 2)) {
      return refusal(BAD);
    }
    int sum = 0;
    for (int name = 0; name < SHIPS; name++) {
      sum += harbour.earning(hull, name);
    }
    // Each NAME comes to a HULL in as many of the 720 rows as each other one.
    return fraction(sum, SHIPS, what);
  }

  public int best(int hull) {
    if (hull != NONE && !isShip(hull)) {
      return BAD;
    }
    bestDraw.weigh();
    return hull == NONE ? bestDraw.sum() : bestDraw.nameOf(hull);
  }

  public int rather(int year) {
    if (!isYear(year)) {
      return BAD;
    }
    int pairs = 0;
    for (int a = 0; a < SHIPS; a++) {
      for (int b = a + 1; b < SHIPS; b++) {
        if (voyages.wouldChange(a, b, year) && voyages.wouldChange(b, a, year)) {
          pairs++;
        }
      }
    }
    return pairs;
  }

  public int on(int year, int hull, int t) {
    if (!isYear(year) || !isShip(hull) || !isBelow(t, MOST_TIMES + 1)) {
      return BAD;
    }
    return voyages.drawnOn(year, hull, t);
  }

  public int returns(int year, int hull) {
    if (!isYear(year) || hull != NONE && !isShip(hull)) {
      return BAD;
    }
    for (int times = 1; times <= ROWS; times++) {
      boolean back = hull == NONE ? voyages.allBack(year, times) : voyages.isBack(year, hull, times);
      if (back) {
        return times;
      }
    }
    return NONE;
  }

  public int lot(int seed, int hull) {
    if (!isShip(hull)) {
      return BAD;
    }
    int left = EVERY_NAME;
    int drawn = NONE;
    int number = seed;
    for (int h = 0; h <= hull; h++) {
      number = 1103515245 * number + 12345;
      drawn = nameAt(left, (number >>> 16) % (SHIPS - h));
      left &= ~(1 << drawn);
    }
    return drawn;
  }

  // ---- claims, sightings

  public int claim(int hull, int year, int harm) {
    if (!isShip(hull) || !isBelow(year, MOST_YEARS) || harm < 1 || harm > MOST_HARM) {
      return BAD;
    }
    if (claims.size >= Claims.MOST) {
      return FULL;
    }
    claims.add(hull, year, harm);
    return claims.size;
  }

  public int owed(int hull, int law) {
    if (!isShip(hull) || !isBelow(law, LAWS)) {
      return BAD;
    }
    return claims.sumFor(hull, law);
  }

  public int lightest(int hull) {
    if (!isShip(hull)) {
      return BAD;
    }
    int least = 0;
    for (int law = 1; law < LAWS; law++) {
      if (claims.sumFor(hull, law) < claims.sumFor(hull, least)) {
        least = law;
      }
    }
    return least;
  }

  public int disputed() {
    return claims.countDisputed();
  }

  public int seen(int name, int what, int v) {
    if (!isShip(name) || !isBelow(what, HULL_TRAITS) || !isTrait(what, v)) {
      return BAD;
    }
    if (sightings.size >= Sightings.MOST) {
      return FULL;
    }
    sightings.add(name, what, v);
    return sightings.size;
  }

  public int forget(int what) {
    if (!isBelow(what, 2)) {
      return BAD;
    }
    return what == 0 ? claims.clear() : sightings.clear();
  }

  public int could(int hull) {
    if (hull != NONE && !isShip(hull)) {
      return BAD;
    }
    drawSeen();
    if (hull == NONE) {
      return draw.rows();
    }
    int bits = 0;
    for (int name = 0; name < SHIPS; name++) {
      if (draw.rowsWith(hull, name) > 0) {
        bits |= 1 << name;
      }
    }
    return bits;
  }

  public int isFalse() {
    int possible = 0;
    for (int hull = 0; hull < SHIPS; hull++) {
      possible |= sightings.namesFor(hull);
    }
    return EVERY_NAME & ~possible;
  }

  // ---- sheets

  public int sheet(int s, int form, int n) {
    if (!isBelow(s, SHEETS) || !isBelow(form, FORMS) || n > MOST_ITEMS) {
      return BAD;
    }
    if (n < 0) {
      return found(SIZE);
    }
    sheets[s].renew(form, n);
    return n;
  }

  public int lose(int s) {
    if (!isBelow(s, SHEETS)) {
      return BAD;
    }
    Sheet sheet = sheets[s];
    if (sheet.lost) {
      return found(NULL);
    }
    sheet.lost = true;
    return sheet.size;
  }

  public int put(int s, int form, int i, int v) {
    if (!isBelow(s, SHEETS) || !isBelow(form, FORMS)) {
      return BAD;
    }
    int finding = sheets[s].findingAt(form, i);
    if (finding != NO_FINDING) {
      return found(finding);
    }
    sheets[s].set(i, v);
    return 1;
  }

  public int get(int s, int form, int i) {
    if (!isBelow(s, SHEETS) || !isBelow(form, FORMS)) {
      return LEAST_INT;
    }
    int finding = sheets[s].findingAt(form, i);
    if (finding != NO_FINDING) {
      latestFinding = finding;
      return LEAST_INT;
    }
    return sheets[s].items[i];
  }

  public int copy(int s, int i, int t, int j, int n) {
    if (!isBelow(s, SHEETS) || !isBelow(t, SHEETS)) {
      return BAD;
    }
    Sheet from = sheets[s];
    Sheet to = sheets[t];
    if (from.lost || to.lost) {
      return found(NULL);
    }
    if (from.form != to.form) {
      return found(STORE);
    }
    if (!from.hasRange(i, n) || !to.hasRange(j, n)) {
      return found(INDEX);
    }
    System.arraycopy(from.items, i, to.items, j, n);
    return 1;
  }

  public int write(int year, int s) {
    if (!isYear(year) || !isBelow(s, SHEETS)) {
      return BAD;
    }
    Sheet sheet = sheets[s];
    if (sheet.lost) {
      return found(NULL);
    }
    int written = Math.min(SHIPS, sheet.size);
    for (int hull = 0; hull < written; hull++) {
      sheet.set(hull, book.nameOf(hull, year));
    }
    return written;
  }

  public int count(int what) {
    switch (what) {
      case 0:
        return book.years;
      case 1:
        return book.length;
      case 2:
        return claims.size;
      case 3:
        return sightings.size;
      case 4:
        return harbour.pairsThatSuit();
      case 5:
        return voyages.allEarned();
      case 6:
        return voyages.allDebt();
      case 7:
        return voyages.allShame();
      case 8:
        return latestFinding;
      default:
        return BAD;
    }
  }

  public long digest() {
    long h = 17;
    for (int what = 0; what < 8; what++) {
      h = 31 * h + count(what);
    }
    h = 31 * h + fault();
    for (int hull = 0; hull < SHIPS; hull++) {
      h = digestOfHull(h, hull);
    }
    for (int name = 0; name < SHIPS; name++) {
      h = 31 * h + debt(name, book.years, 0);
      h = 31 * h + debt(name, book.years, 1);
    }
    for (int year = 0; year < book.years; year++) {
      h = 31 * h + rather(year);
      h = 31 * h + returns(year, NONE);
      h = 31 * h + on(year, 0, 5);
    }
    h = 31 * h + sound(NONE);
    h = 31 * h + best(NONE);
    h = 31 * h + could(NONE);
    h = 31 * h + disputed();
    return 31 * h + isFalse();
  }

  private long digestOfHull(long before, int hull) {
    long h = before;
    h = 31 * h + purse(hull, book.years);
    h = 31 * h + been(hull, book.years);
    h = 31 * h + home(hull);
    h = 31 * h + other(hull, (hull + 1) % SHIPS);
    h = 31 * h + sound(hull);
    h = 31 * h + chance(hull, hull, 0);
    h = 31 * h + chance(hull, hull, 1);
    h = 31 * h + ahead(hull, 0);
    h = 31 * h + ahead(hull, 1);
    h = 31 * h + best(hull);
    h = 31 * h + lot(7, hull);
    for (int law = 0; law < LAWS; law++) {
      h = 31 * h + owed(hull, law);
    }
    return 31 * h + could(hull);
  }

  private void drawSound() {
    for (int hull = 0; hull < SHIPS; hull++) {
      draw.allowed[hull] = harbour.namesFor(hull);
    }
    draw.countWays();
  }

  private void drawSeen() {
    for (int hull = 0; hull < SHIPS; hull++) {
      draw.allowed[hull] = sightings.namesFor(hull);
    }
    draw.countWays();
  }

  private int found(int finding) {
    latestFinding = finding;
    return -10 - finding;
  }

  private boolean isYear(int year) {
    return isBelow(year, book.years);
  }

  /** Whether k YEARS can lie behind: none and all are such, too. */
  private boolean isSpan(int k) {
    return isBelow(k, book.years + 1);
  }

  private static boolean isShip(int number) {
    return isBelow(number, SHIPS);
  }

  private static boolean isBelow(int number, int bound) {
    return number >= 0 && number < bound;
  }

  /** SPEED and WAY, both told by 0, are 1 at least; all other traits may be 0. */
  private static boolean isTrait(int what, int v) {
    return v >= (what == 0 ? 1 : 0) && v <= MOST_OF_A_TRAIT;
  }

  private static long refusal(int code) {
    return LEAST_LONG - code;
  }

  /** The place-th of the NAMES in a set, from the least on; NONE if there are not so many. */
  private static int nameAt(int set, int place) {
    int passed = 0;
    for (int name = 0; name < SHIPS; name++) {
      if (isIn(set, name)) {
        if (passed == place) {
          return name;
        }
        passed++;
      }
    }
    return NONE;
  }

  private static boolean isIn(int set, int name) {
    return (set >> name & 1) == 1;
  }

  private static int fraction(int above, int below, int what) {
    int divisor = commonDivisor(above, below);
    return (what == 0 ? above : below) / divisor;
  }

  /** Counts down rather than by Euclid, so that it plainly is 1 at least and may divide. */
  private static int commonDivisor(int above, int below) {
    for (int divisor = below; divisor > 1; divisor--) {
      if (above % divisor == 0 && below % divisor == 0) {
        return divisor;
      }
    }
    return 1;
  }

  /** HULLS and NAMES with their traits. */
  private static final class Harbour {
    final int[][] hulls = new int[HULL_TRAITS][SHIPS];
    final int[][] names = new int[NAME_TRAITS][SHIPS];

    Harbour() {
      for (int k = 0; k < SHIPS; k++) {
        hulls[SPEED][k] = k + 1;
        hulls[HOLD][k] = 5;
        names[WAY][k] = 3;
        names[LOAD][k] = 5;
        names[FEE][k] = k + 1;
      }
    }

    boolean suits(int hull, int name) {
      return hulls[SPEED][hull] >= names[WAY][name] && hulls[HOLD][hull] >= names[LOAD][name];
    }

    int earning(int hull, int name) {
      return suits(hull, name) ? names[FEE][name] : 0;
    }

    int namesFor(int hull) {
      int bits = 0;
      for (int name = 0; name < SHIPS; name++) {
        if (suits(hull, name)) {
          bits |= 1 << name;
        }
      }
      return bits;
    }

    int pairsThatSuit() {
      int pairs = 0;
      for (int hull = 0; hull < SHIPS; hull++) {
        pairs += Integer.bitCount(namesFor(hull));
      }
      return pairs;
    }
  }

  /** THE BOOK: its bytes, its FAULT, and its YEARS, of which there are none while it has a FAULT. */
  private static final class Book {
    static final int MOST_BYTES = 90;
    /** Six figures and the ; behind them, so that a place tells its YEAR and its HULL. */
    static final int STRIDE = SHIPS + 1;

    private final int[] bytes = new int[MOST_BYTES];
    int length = 0;
    int years = 0;
    int faultPlace = NONE;

    int room() {
      return MOST_BYTES - length;
    }

    int bytesForYear() {
      return length == 0 ? SHIPS : STRIDE;
    }

    void append(int b) {
      add(b);
      parse();
    }

    void appendYear(Sheet sheet) {
      if (length > 0) {
        add(';');
      }
      for (int hull = 0; hull < SHIPS; hull++) {
        add('0' + sheet.items[hull]);
      }
      parse();
    }

    int clear() {
      int had = length;
      length = 0;
      parse();
      return had;
    }

    int nameOf(int hull, int year) {
      return bytes[year * STRIDE + hull] - '0';
    }

    private void add(int b) {
      if (length < MOST_BYTES) {
        bytes[length] = b;
        length++;
      }
    }

    private void parse() {
      faultPlace = firstFault();
      years = faultPlace == NONE ? (length + 1) / STRIDE : 0;
    }

    private int firstFault() {
      int borne = 0;
      for (int place = 0; place < length; place++) {
        if (place / STRIDE == MOST_YEARS) {
          return place;
        }
        if (place % STRIDE == SHIPS) {
          if (bytes[place] != ';') {
            return place;
          }
          borne = 0;
        } else {
          int name = bytes[place] - '0';
          if (!isShip(name) || isIn(borne, name)) {
            return place;
          }
          borne |= 1 << name;
        }
      }
      boolean ended = length == 0 || length % STRIDE == SHIPS;
      return ended ? NONE : length;
    }
  }

  /** What came of THE BOOK's YEARS, by the traits that HULLS and NAMES have now. */
  private static final class Voyages {
    private final Harbour harbour;
    private final Book book;

    Voyages(Harbour harbour, Book book) {
      this.harbour = harbour;
      this.book = book;
    }

    int earnedBy(int hull, int span) {
      int sum = 0;
      for (int year = 0; year < span; year++) {
        sum += harbour.earning(hull, book.nameOf(hull, year));
      }
      return sum;
    }

    int debtOf(int name, int span) {
      return harbour.names[FEE][name] * shameOf(name, span);
    }

    int shameOf(int name, int span) {
      int shame = 0;
      for (int year = 0; year < span; year++) {
        if (!harbour.suits(bearerOf(name, year), name)) {
          shame++;
        }
      }
      return shame;
    }

    int namesBorne(int hull, int span) {
      int bits = 0;
      for (int year = 0; year < span; year++) {
        bits |= 1 << book.nameOf(hull, year);
      }
      return bits;
    }

    /** The first YEAR in which a bore the NAME of b and b that of a; with itself, its own one. */
    int firstYearAs(int a, int b) {
      for (int year = 0; year < book.years; year++) {
        if (book.nameOf(a, year) == b && book.nameOf(b, year) == a) {
          return year;
        }
      }
      return NONE;
    }

    boolean wouldChange(int hull, int with, int year) {
      int now = harbour.earning(hull, book.nameOf(hull, year));
      return harbour.earning(hull, book.nameOf(with, year)) > now;
    }

    int drawnOn(int year, int hull, int times) {
      int name = hull;
      for (int time = 0; time < times; time++) {
        name = book.nameOf(name, year);
      }
      return name;
    }

    boolean isBack(int year, int hull, int times) {
      return drawnOn(year, hull, times) == hull;
    }

    boolean allBack(int year, int times) {
      for (int hull = 0; hull < SHIPS; hull++) {
        if (!isBack(year, hull, times)) {
          return false;
        }
      }
      return true;
    }

    int allEarned() {
      int sum = 0;
      for (int hull = 0; hull < SHIPS; hull++) {
        sum += earnedBy(hull, book.years);
      }
      return sum;
    }

    int allDebt() {
      int sum = 0;
      for (int name = 0; name < SHIPS; name++) {
        sum += debtOf(name, book.years);
      }
      return sum;
    }

    int allShame() {
      int sum = 0;
      for (int name = 0; name < SHIPS; name++) {
        sum += shameOf(name, book.years);
      }
      return sum;
    }

    /** In a YEAR each NAME is borne, so what the earlier HULLS do not bear the last one does. */
    private int bearerOf(int name, int year) {
      for (int hull = 0; hull < SHIPS - 1; hull++) {
        if (book.nameOf(hull, year) == name) {
          return hull;
        }
      }
      return SHIPS - 1;
    }
  }

  /** CLAIMS, and what is owed by them. */
  private static final class Claims {
    static final int MOST = 12;

    private final Book book;
    private final int[] hulls = new int[MOST];
    private final int[] years = new int[MOST];
    private final int[] harms = new int[MOST];
    int size = 0;

    Claims(Book book) {
      this.book = book;
    }

    void add(int hull, int year, int harm) {
      if (size < MOST) {
        hulls[size] = hull;
        years[size] = year;
        harms[size] = harm;
        size++;
      }
    }

    int clear() {
      int had = size;
      size = 0;
      return had;
    }

    int sumFor(int hull, int law) {
      int sum = 0;
      for (int k = 0; k < size; k++) {
        if (counts(k)) {
          int share = hullsShare(harms[k], law);
          if (hulls[k] == hull) {
            sum += share;
          }
          if (nameIn(k) == hull) {
            sum += harms[k] - share;
          }
        }
      }
      return sum;
    }

    int countDisputed() {
      int disputed = 0;
      for (int k = 0; k < size; k++) {
        if (counts(k) && nameIn(k) != hulls[k]) {
          disputed++;
        }
      }
      return disputed;
    }

    private boolean counts(int k) {
      return years[k] < book.years;
    }

    private int nameIn(int k) {
      return book.nameOf(hulls[k], years[k]);
    }

    private static int hullsShare(int harm, int law) {
      switch (law) {
        case 0:
          return harm;
        case 1:
          return 0;
        default:
          return harm / 2;
      }
    }
  }

  /** SIGHTINGS, and which HULLS they leave for a NAME. */
  private static final class Sightings {
    static final int MOST = 8;

    private final Harbour harbour;
    private final int[] names = new int[MOST];
    private final int[] traits = new int[MOST];
    private final int[] values = new int[MOST];
    int size = 0;

    Sightings(Harbour harbour) {
      this.harbour = harbour;
    }

    void add(int name, int trait, int value) {
      if (size < MOST) {
        names[size] = name;
        traits[size] = trait;
        values[size] = value;
        size++;
      }
    }

    int clear() {
      int had = size;
      size = 0;
      return had;
    }

    /** The NAMES none of whose own SIGHTINGS speaks against a HULL. */
    int namesFor(int hull) {
      int bits = EVERY_NAME;
      for (int k = 0; k < size; k++) {
        if (harbour.hulls[traits[k]][hull] != values[k]) {
          bits &= ~(1 << names[k]);
        }
      }
      return bits;
    }
  }

  /**
   * Rows of NAMES for HULLS 0 on, each of which may bear allowed ones alone. HULLS draw in their
   * order, so which NAMES are taken tells who draws next: 64 sets stand for all 720 rows.
   */
  private static final class Draw {
    /** By HULL: NAMES as bits. */
    final int[] allowed = new int[SHIPS];
    /** By the set of NAMES taken: in how many ways it comes to that, and goes on to its end. */
    private final int[] waysTo = new int[EVERY_NAME + 1];
    private final int[] waysOn = new int[EVERY_NAME + 1];

    void countWays() {
      waysTo[0] = 1;
      for (int taken = 1; taken <= EVERY_NAME; taken++) {
        waysTo[taken] = sumTo(taken);
      }
      waysOn[EVERY_NAME] = 1;
      for (int taken = EVERY_NAME - 1; taken >= 0; taken--) {
        waysOn[taken] = sumOn(taken);
      }
    }

    int rows() {
      return waysOn[0];
    }

    int rowsWith(int hull, int name) {
      int sum = 0;
      for (int taken = 0; taken <= EVERY_NAME; taken++) {
        if (Integer.bitCount(taken) == hull && mayTake(taken, hull, name)) {
          sum += waysTo[taken] * waysOn[taken | 1 << name];
        }
      }
      return sum;
    }

    int firstRowName(int hull) {
      int taken = 0;
      int drawn = NONE;
      for (int h = 0; h <= hull; h++) {
        drawn = leastThatGoesOn(taken, h);
        if (drawn == NONE) {
          return NONE;
        }
        taken |= 1 << drawn;
      }
      return drawn;
    }

    private int leastThatGoesOn(int taken, int hull) {
      for (int name = 0; name < SHIPS; name++) {
        if (mayTake(taken, hull, name) && waysOn[taken | 1 << name] > 0) {
          return name;
        }
      }
      return NONE;
    }

    private int sumTo(int taken) {
      int latest = Integer.bitCount(taken) - 1;
      int sum = 0;
      for (int name = 0; name < SHIPS; name++) {
        int before = taken & ~(1 << name);
        if (before != taken && mayTake(before, latest, name)) {
          sum += waysTo[before];
        }
      }
      return sum;
    }

    private int sumOn(int taken) {
      int next = Integer.bitCount(taken);
      int sum = 0;
      for (int name = 0; name < SHIPS; name++) {
        if (mayTake(taken, next, name)) {
          sum += waysOn[taken | 1 << name];
        }
      }
      return sum;
    }

    private boolean mayTake(int taken, int hull, int name) {
      return (allowed[hull] & ~taken & 1 << name) != 0;
    }
  }

  /** The row by which FEES earned together are the greatest; of sets of NAMES taken, as in Draw. */
  private static final class BestDraw {
    private final Harbour harbour;
    /** By HULL and NAME, as weigh() found it. */
    private final int[][] earnings = new int[SHIPS][SHIPS];
    /** By the set of NAMES taken: the most that the HULLS which have not drawn can still earn. */
    private final int[] most = new int[EVERY_NAME + 1];

    BestDraw(Harbour harbour) {
      this.harbour = harbour;
    }

    void weigh() {
      for (int hull = 0; hull < SHIPS; hull++) {
        for (int name = 0; name < SHIPS; name++) {
          earnings[hull][name] = harbour.earning(hull, name);
        }
      }
      most[EVERY_NAME] = 0;
      for (int taken = EVERY_NAME - 1; taken >= 0; taken--) {
        most[taken] = mostFrom(taken);
      }
    }

    int sum() {
      return most[0];
    }

    int nameOf(int hull) {
      int taken = 0;
      int drawn = NONE;
      for (int h = 0; h <= hull; h++) {
        drawn = leastThatEarnsMost(taken, h);
        if (drawn == NONE) {
          return NONE;
        }
        taken |= 1 << drawn;
      }
      return drawn;
    }

    private int mostFrom(int taken) {
      int hull = Integer.bitCount(taken);
      int greatest = 0;
      for (int name = 0; name < SHIPS; name++) {
        if (!isIn(taken, name)) {
          greatest = Math.max(greatest, mostBy(taken, hull, name));
        }
      }
      return greatest;
    }

    private int leastThatEarnsMost(int taken, int hull) {
      for (int name = 0; name < SHIPS; name++) {
        if (!isIn(taken, name) && mostBy(taken, hull, name) == most[taken]) {
          return name;
        }
      }
      return NONE;
    }

    private int mostBy(int taken, int hull, int name) {
      return earnings[hull][name] + most[taken | 1 << name];
    }
  }

  /** A SHEET; its row is made once and used again, whatever its FORM and size. */
  private static final class Sheet {
    final int[] items = new int[MOST_ITEMS];
    boolean lost = true;
    int form = BYTES;
    int size = 0;

    void renew(int newForm, int newSize) {
      Arrays.fill(items, 0);
      lost = false;
      form = newForm;
      size = newSize;
    }

    /** The first FINDING that fits item i, treated as of a FORM. */
    int findingAt(int asForm, int i) {
      if (lost) {
        return NULL;
      }
      if (form != asForm) {
        return CAST;
      }
      return isBelow(i, size) ? NO_FINDING : INDEX;
    }

    void set(int i, int v) {
      items[i] = narrowed(v);
    }

    /** Whether there are n items from one on: their sum might wrap, so it is not formed. */
    boolean hasRange(int from, int n) {
      return from >= 0 && n >= 0 && n <= size && from <= size - n;
    }

    boolean holdsYear() {
      if (size < SHIPS) {
        return false;
      }
      int borne = 0;
      for (int hull = 0; hull < SHIPS; hull++) {
        if (!isShip(items[hull])) {
          return false;
        }
        borne |= 1 << items[hull];
      }
      return borne == EVERY_NAME;
    }

    private int narrowed(int v) {
      switch (form) {
        case BYTES:
          return (byte) v;
        case SHORTS:
          return (short) v;
        default:
          return v;
      }
    }
  }
}
