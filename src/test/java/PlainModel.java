import java.util.ArrayList;
import java.util.List;

/**
 * The document told once more, as plainly as can be and in another way than the class: all 720 rows
 * are gone through one by one, and THE BOOK is read anew at each call.
 */
final class PlainModel {
  private static final int NONE = -1, BAD = -2, NOT = -3, FULL = -4;
  private static final List<int[]> ROWS = new ArrayList<>();

  static {
    addRows(new int[6], 0);
  }

  private final int[] speed = {1, 2, 3, 4, 5, 6};
  private final int[] hold = {5, 5, 5, 5, 5, 5};
  private final int[] way = {3, 3, 3, 3, 3, 3};
  private final int[] load = {5, 5, 5, 5, 5, 5};
  private final int[] fee = {1, 2, 3, 4, 5, 6};
  private final List<Integer> bytes = new ArrayList<>();
  private final List<int[]> claims = new ArrayList<>();
  private final List<int[]> sightings = new ArrayList<>();
  private final int[][] sheets = new int[4][];
  private final int[] forms = new int[4];
  private int finding = 0;

  private static void addRows(int[] row, int hull) {
    if (hull == 6) {
      ROWS.add(row.clone());
      return;
    }
    for (int name = 0; name < 6; name++) {
      boolean left = true;
      for (int h = 0; h < hull; h++) {
        left = left && row[h] != name;
      }
      if (left) {
        row[hull] = name;
        addRows(row, hull + 1);
      }
    }
  }

  private static boolean in(int x, int least, int most) {
    return x >= least && x <= most;
  }

  private static boolean ship(int k) {
    return in(k, 0, 5);
  }

  private static int swap(int[] row, int at, int v) {
    int was = row[at];
    row[at] = v;
    return was;
  }

  public int hull(int hull, int what, int v) {
    if (!ship(hull) || !in(what, 0, 1) || !in(v, what == 0 ? 1 : 0, 9)) {
      return BAD;
    }
    return swap(what == 0 ? speed : hold, hull, v);
  }

  public int name(int name, int what, int v) {
    if (!ship(name) || !in(what, 0, 2) || !in(v, what == 0 ? 1 : 0, 9)) {
      return BAD;
    }
    return swap(what == 0 ? way : what == 1 ? load : fee, name, v);
  }

  private boolean suit(int hull, int name) {
    return speed[hull] >= way[name] && hold[hull] >= load[name];
  }

  private int earn(int hull, int name) {
    return suit(hull, name) ? fee[name] : 0;
  }

  public int fits(int hull, int name) {
    return !ship(hull) || !ship(name) ? BAD : suit(hull, name) ? 1 : 0;
  }

  public int type(int b) {
    if (!in(b, 0, 255)) {
      return BAD;
    }
    if (bytes.size() == 90) {
      return FULL;
    }
    bytes.add(b);
    return bytes.size();
  }

  public int wipe() {
    int had = bytes.size();
    bytes.clear();
    return had;
  }

  public int fault() {
    int end = bytes.size();
    if (end == 0) {
      return NONE;
    }
    int at = 0;
    for (int year = 0; year < 12; year++) {
      String left = "012345";
      for (int hull = 0; hull < 6; hull++) {
        if (at == end || left.indexOf(bytes.get(at)) < 0) {
          return at;
        }
        left = left.replace("" + (char) (int) bytes.get(at), "");
        at++;
      }
      if (at == end) {
        return NONE;
      }
      if (bytes.get(at) != ';') {
        return at;
      }
      at++;
    }
    return at;
  }

  private List<int[]> years() {
    List<int[]> years = new ArrayList<>();
    if (fault() != NONE || bytes.isEmpty()) {
      return years;
    }
    StringBuilder text = new StringBuilder();
    for (int b : bytes) {
      text.append((char) b);
    }
    for (String part : text.toString().split(";")) {
      int[] year = new int[6];
      for (int hull = 0; hull < 6; hull++) {
        year[hull] = part.charAt(hull) - '0';
      }
      years.add(year);
    }
    return years;
  }

  private int found(int number) {
    finding = number;
    return -10 - number;
  }

  public int read(int s) {
    if (!in(s, 0, 3)) {
      return BAD;
    }
    if (sheets[s] == null) {
      return found(1);
    }
    if (sheets[s].length < 6) {
      return NOT;
    }
    String figures = bytes.isEmpty() ? "" : ";";
    for (int name = 0; name < 6; name++) {
      int times = 0;
      for (int hull = 0; hull < 6; hull++) {
        times += sheets[s][hull] == name ? 1 : 0;
      }
      if (times != 1) {
        return NOT;
      }
    }
    for (int hull = 0; hull < 6; hull++) {
      figures += sheets[s][hull];
    }
    if (bytes.size() + figures.length() > 90) {
      return FULL;
    }
    for (char c : figures.toCharArray()) {
      bytes.add((int) c);
    }
    return bytes.size();
  }

  public int borne(int hull, int year) {
    return !ship(hull) || !in(year, 0, years().size() - 1) ? BAD : years().get(year)[hull];
  }

  /** All that k YEARS bring: by HULL PURSE and BEEN, by NAME DEBT and SHAME. */
  private int[][] sail(int k) {
    int[][] sums = new int[4][6];
    for (int[] year : years().subList(0, k)) {
      for (int hull = 0; hull < 6; hull++) {
        int name = year[hull];
        sums[1][hull] |= 1 << name;
        if (suit(hull, name)) {
          sums[0][hull] += fee[name];
        } else {
          sums[2][name] += fee[name];
          sums[3][name]++;
        }
      }
    }
    return sums;
  }

  public int purse(int hull, int k) {
    return !ship(hull) || !in(k, 0, years().size()) ? BAD : sail(k)[0][hull];
  }

  public int debt(int name, int k, int what) {
    return !ship(name) || !in(k, 0, years().size()) || !in(what, 0, 1) ? BAD : sail(k)[2 + what][name];
  }

  public int been(int hull, int k) {
    return !ship(hull) || !in(k, 0, years().size()) ? BAD : sail(k)[1][hull];
  }

  public int home(int hull) {
    if (!ship(hull)) {
      return BAD;
    }
    List<int[]> years = years();
    for (int year = 0; year < years.size(); year++) {
      if (years.get(year)[hull] == hull) {
        return year;
      }
    }
    return NONE;
  }

  public int other(int a, int b) {
    if (!ship(a) || !ship(b) || a == b) {
      return BAD;
    }
    List<int[]> years = years();
    for (int year = 0; year < years.size(); year++) {
      if (years.get(year)[a] == b && years.get(year)[b] == a) {
        return year;
      }
    }
    return NONE;
  }

  private List<int[]> soundRows() {
    List<int[]> sound = new ArrayList<>();
    for (int[] row : ROWS) {
      boolean well = true;
      for (int hull = 0; hull < 6; hull++) {
        well = well && suit(hull, row[hull]);
      }
      if (well) {
        sound.add(row);
      }
    }
    return sound;
  }

  public int sound(int hull) {
    if (!in(hull, -1, 5)) {
      return BAD;
    }
    List<int[]> sound = soundRows();
    return hull == NONE ? sound.size() : sound.isEmpty() ? NONE : sound.get(0)[hull];
  }

  private static long part(int above, int below, int what) {
    int a = above;
    int b = below;
    while (b != 0) {
      int rest = a % b;
      a = b;
      b = rest;
    }
    return (what == 0 ? above : below) / a;
  }

  public long chance(int hull, int name, int what) {
    if (!ship(hull) || !ship(name) || !in(what, 0, 1)) {
      return Long.MIN_VALUE + 2;
    }
    List<int[]> sound = soundRows();
    if (sound.isEmpty()) {
      return Long.MIN_VALUE + 3;
    }
    int with = 0;
    for (int[] row : sound) {
      with += row[hull] == name ? 1 : 0;
    }
    return part(with, sound.size(), what);
  }

  public long ahead(int hull, int what) {
    if (!ship(hull) || !in(what, 0, 1)) {
      return Long.MIN_VALUE + 2;
    }
    int sum = 0;
    for (int[] row : ROWS) {
      sum += earn(hull, row[hull]);
    }
    return part(sum, 720, what);
  }

  public int best(int hull) {
    if (!in(hull, -1, 5)) {
      return BAD;
    }
    int most = -1;
    int[] best = null;
    for (int[] row : ROWS) {
      int sum = 0;
      for (int h = 0; h < 6; h++) {
        sum += earn(h, row[h]);
      }
      if (sum > most) {
        most = sum;
        best = row;
      }
    }
    return hull == NONE ? most : best[hull];
  }

  public int rather(int year) {
    List<int[]> years = years();
    if (!in(year, 0, years.size() - 1)) {
      return BAD;
    }
    int[] row = years.get(year);
    int both = 0;
    for (int a = 0; a < 6; a++) {
      for (int b = 0; b < 6; b++) {
        if (a != b && earn(a, row[b]) > earn(a, row[a]) && earn(b, row[a]) > earn(b, row[b])) {
          both++;
        }
      }
    }
    return both / 2;
  }

  private static int[] drawAgain(int[] borne, int[] year) {
    int[] next = new int[6];
    for (int hull = 0; hull < 6; hull++) {
      next[hull] = year[borne[hull]];
    }
    return next;
  }

  public int on(int year, int hull, int t) {
    List<int[]> years = years();
    if (!in(year, 0, years.size() - 1) || !ship(hull) || !in(t, 0, 999)) {
      return BAD;
    }
    int[] borne = {0, 1, 2, 3, 4, 5};
    for (int time = 0; time < t; time++) {
      borne = drawAgain(borne, years.get(year));
    }
    return borne[hull];
  }

  public int returns(int year, int hull) {
    List<int[]> years = years();
    if (!in(year, 0, years.size() - 1) || !in(hull, -1, 5)) {
      return BAD;
    }
    int[] borne = {0, 1, 2, 3, 4, 5};
    int times = 0;
    boolean back;
    do {
      borne = drawAgain(borne, years.get(year));
      times++;
      back = true;
      for (int h = 0; h < 6; h++) {
        back = back && (borne[h] == h || hull != NONE && h != hull);
      }
    } while (!back);
    return times;
  }

  public int lot(int seed, int hull) {
    if (!ship(hull)) {
      return BAD;
    }
    List<Integer> left = new ArrayList<>(List.of(0, 1, 2, 3, 4, 5));
    long number = seed;
    int drawn = NONE;
    for (int h = 0; h <= hull; h++) {
      number = (1103515245L * number + 12345L) & 0xffffffffL;
      drawn = left.remove((int) ((number >> 16) % left.size()));
    }
    return drawn;
  }

  private static int keep(List<int[]> list, int most, int... entry) {
    if (list.size() == most) {
      return FULL;
    }
    list.add(entry);
    return list.size();
  }

  public int claim(int hull, int year, int harm) {
    return !ship(hull) || !in(year, 0, 11) || !in(harm, 1, 99) ? BAD : keep(claims, 12, hull, year, harm);
  }

  public int owed(int hull, int law) {
    if (!ship(hull) || !in(law, 0, 2)) {
      return BAD;
    }
    List<int[]> years = years();
    int[] owes = new int[6];
    for (int[] claim : claims) {
      if (claim[1] < years.size()) {
        int as = years.get(claim[1])[claim[0]];
        if (law == 0) {
          owes[claim[0]] += claim[2];
        } else if (law == 1) {
          owes[as] += claim[2];
        } else {
          owes[claim[0]] += claim[2] / 2;
          owes[as] += (claim[2] + 1) / 2;
        }
      }
    }
    return owes[hull];
  }

  public int lightest(int hull) {
    if (!ship(hull)) {
      return BAD;
    }
    int least = Math.min(owed(hull, 0), Math.min(owed(hull, 1), owed(hull, 2)));
    return owed(hull, 0) == least ? 0 : owed(hull, 1) == least ? 1 : 2;
  }

  public int disputed() {
    List<int[]> years = years();
    int disputed = 0;
    for (int[] claim : claims) {
      if (claim[1] < years.size() && years.get(claim[1])[claim[0]] != claim[0]) {
        disputed++;
      }
    }
    return disputed;
  }

  public int seen(int name, int what, int v) {
    return !ship(name) || !in(what, 0, 1) || !in(v, what == 0 ? 1 : 0, 9) ? BAD : keep(sightings, 8, name, what, v);
  }

  public int forget(int what) {
    if (!in(what, 0, 1)) {
      return BAD;
    }
    List<int[]> list = what == 0 ? claims : sightings;
    int had = list.size();
    list.clear();
    return had;
  }

  private boolean looksLike(int hull, int[] sighting) {
    return (sighting[1] == 0 ? speed : hold)[hull] == sighting[2];
  }

  public int could(int hull) {
    if (!in(hull, -1, 5)) {
      return BAD;
    }
    int rows = 0;
    int bits = 0;
    for (int[] row : ROWS) {
      boolean so = true;
      for (int[] sighting : sightings) {
        for (int h = 0; h < 6; h++) {
          so = so && (row[h] != sighting[0] || looksLike(h, sighting));
        }
      }
      if (so) {
        rows++;
        bits |= hull == NONE ? 0 : 1 << row[hull];
      }
    }
    return hull == NONE ? rows : bits;
  }

  public int isFalse() {
    int bits = 0;
    for (int name = 0; name < 6; name++) {
      boolean any = false;
      for (int hull = 0; hull < 6; hull++) {
        boolean can = true;
        for (int[] sighting : sightings) {
          can = can && (sighting[0] != name || looksLike(hull, sighting));
        }
        any = any || can;
      }
      bits |= any ? 0 : 1 << name;
    }
    return bits;
  }

  public int sheet(int s, int form, int n) {
    if (!in(s, 0, 3) || !in(form, 0, 2) || n > 48) {
      return BAD;
    }
    if (n < 0) {
      return found(5);
    }
    sheets[s] = new int[n];
    forms[s] = form;
    return n;
  }

  public int lose(int s) {
    if (!in(s, 0, 3)) {
      return BAD;
    }
    if (sheets[s] == null) {
      return found(1);
    }
    int had = sheets[s].length;
    sheets[s] = null;
    return had;
  }

  private int itemFinding(int s, int form, int i) {
    return sheets[s] == null ? 1 : forms[s] != form ? 3 : !in(i, 0, sheets[s].length - 1) ? 2 : 0;
  }

  public int put(int s, int form, int i, int v) {
    if (!in(s, 0, 3) || !in(form, 0, 2)) {
      return BAD;
    }
    if (itemFinding(s, form, i) != 0) {
      return found(itemFinding(s, form, i));
    }
    int spare = form == 0 ? 24 : form == 1 ? 16 : 0;
    sheets[s][i] = v << spare >> spare;
    return 1;
  }

  public int get(int s, int form, int i) {
    if (!in(s, 0, 3) || !in(form, 0, 2)) {
      return Integer.MIN_VALUE;
    }
    if (itemFinding(s, form, i) != 0) {
      found(itemFinding(s, form, i));
      return Integer.MIN_VALUE;
    }
    return sheets[s][i];
  }

  public int copy(int s, int i, int t, int j, int n) {
    if (!in(s, 0, 3) || !in(t, 0, 3)) {
      return BAD;
    }
    if (sheets[s] == null || sheets[t] == null) {
      return found(1);
    }
    if (forms[s] != forms[t]) {
      return found(4);
    }
    if (i < 0 || j < 0 || n < 0 || (long) i + n > sheets[s].length || (long) j + n > sheets[t].length) {
      return found(2);
    }
    int[] were = sheets[s].clone();
    for (int k = 0; k < n; k++) {
      sheets[t][j + k] = were[i + k];
    }
    return 1;
  }

  public int write(int year, int s) {
    List<int[]> years = years();
    if (!in(year, 0, years.size() - 1) || !in(s, 0, 3)) {
      return BAD;
    }
    if (sheets[s] == null) {
      return found(1);
    }
    int n = 0;
    while (n < 6 && n < sheets[s].length) {
      sheets[s][n] = years.get(year)[n];
      n++;
    }
    return n;
  }

  private int pairs() {
    int pairs = 0;
    for (int hull = 0; hull < 6; hull++) {
      for (int name = 0; name < 6; name++) {
        pairs += suit(hull, name) ? 1 : 0;
      }
    }
    return pairs;
  }

  private int sumOf(int which) {
    int sum = 0;
    for (int part : sail(years().size())[which]) {
      sum += part;
    }
    return sum;
  }

  public int count(int what) {
    if (!in(what, 0, 8)) {
      return BAD;
    }
    int[] counts = {years().size(), bytes.size(), claims.size(), sightings.size(), pairs(), sumOf(0), sumOf(2), sumOf(3),
        finding};
    return counts[what];
  }

  public long digest() {
    List<Long> told = new ArrayList<>();
    int years = years().size();
    for (int what = 0; what <= 7; what++) {
      told.add((long) count(what));
    }
    told.add((long) fault());
    for (int k = 0; k < 6; k++) {
      long[] ofHull = {purse(k, years), been(k, years), home(k), other(k, (k + 1) % 6), sound(k), chance(k, k, 0),
          chance(k, k, 1), ahead(k, 0), ahead(k, 1), best(k), lot(7, k), owed(k, 0), owed(k, 1), owed(k, 2), could(k)};
      for (long answer : ofHull) {
        told.add(answer);
      }
    }
    for (int k = 0; k < 6; k++) {
      told.add((long) debt(k, years, 0));
      told.add((long) debt(k, years, 1));
    }
    for (int year = 0; year < years; year++) {
      told.add((long) rather(year));
      told.add((long) returns(year, NONE));
      told.add((long) on(year, 0, 5));
    }
    long[] atLast = {sound(NONE), best(NONE), could(NONE), disputed(), isFalse()};
    for (long answer : atLast) {
      told.add(answer);
    }
    long h = 17;
    for (long answer : told) {
      h = 31 * h + answer;
    }
    return h;
  }
}
