import java.util.ArrayList;
import java.util.HashMap;
import java.util.HashSet;
import java.util.List;
import java.util.Map;
import java.util.Set;
import java.util.TreeMap;

/** The document once more, written another way and with the whole library: ModelTest holds the class against it. */
public final class Model {
  interface Num { int of(Map<String, Integer> vars); }

  static final class DividedByZero extends RuntimeException {
    private static final long serialVersionUID = 1;
    DividedByZero() { super(null, null, false, false); }
  }

  static final class Fault extends Exception {
    private static final long serialVersionUID = 1;
    final int number; final int place;
    Fault(int number, int place) { this.number = number; this.place = place; }
  }

  static final class World {
    int hour; int[] x, coins, gone, rent;
    TreeMap<Integer, int[]> loans = new TreeMap<>();
    World twin() {
      World w = new World();
      w.hour = hour; w.x = x.clone(); w.coins = coins.clone(); w.gone = gone.clone(); w.rent = rent.clone();
      for (Map.Entry<Integer, int[]> e : loans.entrySet()) w.loans.put(e.getKey(), e.getValue().clone());
      return w;
    }
  }

  static final class Text {
    List<int[]> things = new ArrayList<>(), seats = new ArrayList<>();
    Map<String, Num> laws = new HashMap<>();
    int grace = 24, winds = 0, begins = 0, seed = 0;
    Text() {
      laws.put("heat", v -> v.get("hour"));
      laws.put("seen", v -> v.get("warm") - v.get("far"));
      laws.put("moved", v -> 0);
      laws.put("rent", v -> v.get("tall"));
      laws.put("interest", v -> 0);
    }
  }

  // ---- reading

  static final List<String> VARS = List.of("hour", "day", "warm", "far", "tall", "across", "lent", "side", "at");
  static final List<String> LAWS = List.of("heat", "seen", "moved", "rent", "interest");
  static final Set<String> WORDS = new HashSet<>(List.of("thing", "seat", "grace", "winds", "begins", "seed", "if", "then", "else"));
  static { WORDS.addAll(VARS); WORDS.addAll(LAWS); }

  static final class Reader {
    final String s; int at = 0; int tokens = 0; String token; int start;
    Fault later = null;
    final Text text = new Text();
    final Set<String> names = new HashSet<>();

    Reader(String s) { this.s = s; }

    void next() {
      while (at < s.length() && "\t\n\r ".indexOf(s.charAt(at)) >= 0) at++;
      start = at;
      if (at == s.length()) { token = ""; return; }
      int end = at + 1;
      for (String range : new String[] {"az", "09"})
        if (s.charAt(at) >= range.charAt(0) && s.charAt(at) <= range.charAt(1))
          while (end < s.length() && s.charAt(end) >= range.charAt(0) && s.charAt(end) <= range.charAt(1)) end++;
      token = s.substring(at, end);
      at = end;
      tokens++;
    }
    boolean isName() { return token.matches("[a-z]{1,8}") && !WORDS.contains(token); }
    boolean isInt() { return token.matches("[0-9]{1,4}"); }

    void eat(boolean fits) throws Fault {
      if (!fits) throw new Fault(1, start);
      if (tokens > 400) throw new Fault(2, start);
      next();
    }
    void eat(String want) throws Fault { eat(token.equals(want)); }
    void later(int number, int place) { if (later == null) later = new Fault(number, place); }

    Text read() throws Fault {
      next();
      while (!token.isEmpty()) tell();
      if (later != null) throw later;
      return text;
    }
    int number(int from, int to) throws Fault {
      String digits = token; int place = start;
      eat(isInt());
      int n = Integer.parseInt(digits);
      if (n < from || n > to) later(5, place);
      return n;
    }
    void tell() throws Fault {
      String word = token; int place = start;
      if (word.equals("thing") || word.equals("seat")) {
        List<int[]> row = word.equals("thing") ? text.things : text.seats;
        if (row.size() == 6) throw new Fault(2, place);
        next0(word);
        String name = token; int namePlace = start;
        eat(isName());
        if (!names.add(name)) later(3, namePlace);
        int x = number(0, 19);
        row.add(new int[] {x, word.equals("thing") ? number(1, 9) : number(0, 999)});
      } else if (LAWS.contains(word)) {
        next0(word);
        eat("=");
        text.laws.put(word, law());
      } else if (word.equals("grace")) { next0(word); text.grace = number(1, 99);
      } else if (word.equals("winds")) { next0(word); text.winds = number(0, 100);
      } else if (word.equals("begins")) { next0(word); text.begins = number(0, 23);
      } else if (word.equals("seed")) { next0(word); text.seed = number(0, 9999);
      } else throw new Fault(1, place);
      eat(";");
    }
    void next0(String word) throws Fault { eat(word); }

    Num law() throws Fault {
      List<Num[]> ifs = new ArrayList<>();
      while (token.equals("if")) {
        if (ifs.size() == 4) throw new Fault(2, start);
        eat("if"); Num a = sum(0); eat("<"); Num b = sum(0); eat("then"); Num c = sum(0); eat("else");
        ifs.add(new Num[] {a, b, c});
      }
      Num last = sum(0);
      return v -> {
        for (Num[] i : ifs) if (i[0].of(v) < i[1].of(v)) return i[2].of(v);
        return last.of(v);
      };
    }
    Num sum(int open) throws Fault {
      Num all = product(open);
      while (token.equals("+") || token.equals("-")) {
        Num left = all; boolean plus = token.equals("+");
        eat(true);
        Num right = product(open);
        all = plus ? v -> left.of(v) + right.of(v) : v -> left.of(v) - right.of(v);
      }
      return all;
    }
    Num product(int open) throws Fault {
      Num all = unit(open);
      while (token.equals("*") || token.equals("/")) {
        Num left = all; boolean times = token.equals("*");
        eat(true);
        Num right = unit(open);
        all = times ? v -> left.of(v) * right.of(v) : v -> parts(left.of(v), right.of(v));
      }
      return all;
    }
    static int parts(int a, int b) {
      if (b == 0) throw new DividedByZero();
      return (int) ((long) a / b);
    }
    Num unit(int open) throws Fault {
      String word = token;
      if (isInt()) { int n = Integer.parseInt(word); eat(true); return v -> n; }
      if (VARS.contains(word)) { eat(true); return v -> v.get(word); }
      if (!word.equals("(")) throw new Fault(1, start);
      if (open == 6) throw new Fault(2, start);
      eat("(");
      Num inner = sum(open + 1);
      eat(")");
      return inner;
    }
  }

  // ---- laws

  Text text = new Text();
  World w = fresh(text);
  final StringBuilder tape = new StringBuilder();
  int place = -1;
  final List<World> past = new ArrayList<>();
  World[] slots = new World[3];
  final List<int[]> told = new ArrayList<>();

  static World fresh(Text t) {
    World w = new World();
    int n = t.seats.size();
    w.hour = t.begins; w.x = new int[n]; w.coins = new int[n]; w.gone = new int[n]; w.rent = new int[n];
    for (int i = 0; i < n; i++) { w.x[i] = t.seats.get(i)[0]; w.coins[i] = t.seats.get(i)[1]; }
    return w;
  }

  static int hold(int low, int v, int high) { return v < low ? low : v > high ? high : v; }

  int law(String name, int hour, Object... more) {
    Map<String, Integer> vars = new HashMap<>();
    for (String v : VARS) vars.put(v, 0);
    vars.put("hour", hour % 24);
    vars.put("day", hour / 24);
    for (int i = 0; i < more.length; i += 2) vars.put((String) more[i], (Integer) more[i + 1]);
    try { return text.laws.get(name).of(vars); } catch (DividedByZero e) { return 0; }
  }
  int heat(int hour) { return hold(0, law("heat", hour), 99); }
  int interest(int hour, int lent) { return hold(0, law("interest", hour, "lent", lent, "warm", heat(hour)), 99); }
  int ofThing(String name, int hour, int x, int[] thing, int lent) {
    return law(name, hour, "warm", heat(hour), "far", Math.abs(x - thing[0]), "tall", thing[1], "across", thing[0],
        "side", thing[0] > x ? 1 : 0, "at", x, "lent", lent);
  }
  boolean seen(int hour, int x, int[] thing) { return ofThing("seen", hour, x, thing, 0) > 0; }
  int moved(int hour, int x, int[] thing) { return hold(-9, ofThing("moved", hour, x, thing, 0), 9); }
  int rent(int hour, int x, int[] thing, int lent) { return hold(0, ofThing("rent", hour, x, thing, lent), 99); }
  int spot(int hour, int x, int[] thing) {
    if (!seen(hour, x, thing)) return -1;
    int m = moved(hour, x, thing);
    return hold(0, thing[0] < x ? thing[0] - m : thing[0] + m, 19);
  }
  static boolean wind(int hour, int seed, int winds) {
    int h = seed;
    for (int it : new int[] {119, 4 * hour}) {
      h = (h ^ it) * 1103515245 + 12345;
      h = h ^ (h >>> 15);
    }
    return (h >>> 1) % 100 < winds;
  }
  int[] thingAt(int i) { return text.things.get(i); }

  void go(World v, int n, int seed, int winds) {
    for (int i = 0; i < n; i++, v.hour++) {
      boolean wind = wind(v.hour, seed, winds);
      for (int key : new ArrayList<>(v.loans.keySet())) {
        int seat = key / 10; int[] loan = v.loans.get(key); int[] thing = thingAt(key % 10);
        if (!wind && seen(v.hour, v.x[seat], thing)) {
          int r = rent(v.hour, v.x[seat], thing, loan[0]);
          v.coins[seat] = Math.min(99999, v.coins[seat] + r);
          v.rent[seat] += r;
          loan[1] = 0;
        } else if (++loan[1] == text.grace) {
          v.loans.remove(key);
          v.gone[seat]++;
        } else {
          loan[0] = (int) Math.min(99999L, loan[0] * (100L + interest(v.hour, loan[0])) / 100);
        }
      }
    }
  }

  // ---- the face

  boolean okX(int x) { return x >= 0 && x <= 19; }
  boolean okT(int t) { return t >= 0 && t < text.things.size(); }
  boolean okS(int s) { return s >= 0 && s < text.seats.size(); }
  static boolean in(int low, int n, int high) { return n >= low && n <= high; }

  public int feed(int a, int b, int c, int d, int e) {
    if (tape.length() > 1980) return -1;
    for (int word : new int[] {a, b, c, d, e})
      for (int shift = 24; shift >= 0; shift -= 8) tape.append((char) (word >>> shift & 255));
    return tape.length();
  }
  public int back(int n) {
    if (!in(0, n, tape.length())) return -1;
    tape.setLength(tape.length() - n);
    return tape.length();
  }
  public int read() {
    String s = tape.toString();
    tape.setLength(0);
    place = -1;
    try {
      text = new Reader(s).read();
      w = fresh(text);
      past.clear(); told.clear(); slots = new World[3];
      return 0;
    } catch (Fault f) { place = f.place; return f.number; }
  }
  public int place() { return place; }
  public int thing(int t, int what) {
    if (!okT(t) || !in(0, what, 3)) return -1;
    if (what < 2) return thingAt(t)[what];
    int bits = 0;
    for (int s = 0; s < w.x.length; s++)
      if (what == 2 ? seen(w.hour, w.x[s], thingAt(t)) : w.loans.containsKey(10 * s + t)) bits += 1 << s;
    return bits;
  }
  public int seat(int s, int what) {
    if (!okS(s) || !in(0, what, 6)) return -1;
    int bits = 0, on = 0, sum = 0;
    for (int t = 0; t < text.things.size(); t++) {
      if (seen(w.hour, w.x[s], thingAt(t))) bits += 1 << t;
      if (w.loans.containsKey(10 * s + t)) { on += 1 << t; sum += w.loans.get(10 * s + t)[0]; }
    }
    return new int[] {w.x[s], w.coins[s], bits, on, sum, w.gone[s], w.rent[s]}[what];
  }
  public int loan(int s, int t, int what) {
    if (!okS(s) || !okT(t) || !in(0, what, 1)) return -1;
    return w.loans.containsKey(10 * s + t) ? w.loans.get(10 * s + t)[what] : -2;
  }
  public int tells(int what, int x, int t, int n) {
    if (!in(0, what, 3)) return -100;
    if (what == 0) return heat(w.hour);
    if (what == 3) return in(0, n, 999) ? interest(w.hour, n) : -100;
    if (!okX(x) || !okT(t)) return -100;
    if (what == 1) return moved(w.hour, x, thingAt(t));
    return in(0, n, 999) ? rent(w.hour, x, thingAt(t), n) : -100;
  }
  void done() {
    past.add(w.twin());
    if (past.size() > 30) past.remove(0);
  }
  public int lend(int s, int t, int n) {
    if (!okS(s) || !okT(t) || !in(1, n, 999)) return -1;
    if (n > w.coins[s] || w.loans.containsKey(10 * s + t) || !seen(w.hour, w.x[s], thingAt(t))) return -2;
    done();
    w.loans.put(10 * s + t, new int[] {n, 0});
    return w.coins[s] -= n;
  }
  public int call(int s, int t) {
    if (!okS(s) || !okT(t)) return -1;
    int[] loan = w.loans.get(10 * s + t);
    if (loan == null || !seen(w.hour, w.x[s], thingAt(t)) || loan[0] + w.coins[s] > 99999) return -2;
    done();
    w.loans.remove(10 * s + t);
    w.coins[s] += loan[0];
    return loan[0];
  }
  public boolean move(int s, int x) {
    if (!okS(s) || !okX(x) || w.x[s] == x) return false;
    done();
    w.x[s] = x;
    return true;
  }
  public int hours(int n) {
    if (!in(0, n, 48)) return -1;
    if (n > 0) { done(); go(w, n, text.seed, text.winds); }
    return w.hour;
  }
  public boolean undo() {
    if (past.isEmpty()) return false;
    w = past.remove(past.size() - 1);
    return true;
  }
  public int sight(int x, int t, int n) {
    if (!okX(x) || !okT(t) || !in(0, n, 48)) return -1;
    int at = spot(w.hour + n, x, thingAt(t));
    return at < 0 ? -2 : at;
  }
  public int clash(int what) {
    if (!in(0, what, 1)) return -1;
    Set<Integer> pairs = new java.util.TreeSet<>();
    for (int a : w.loans.keySet())
      for (int b : w.loans.keySet()) {
        int at = spot(w.hour, w.x[a / 10], thingAt(a % 10));
        if (a / 10 < b / 10 && a % 10 != b % 10 && at >= 0 && at == spot(w.hour, w.x[b / 10], thingAt(b % 10)))
          pairs.add(10 * (a / 10) + b / 10);
      }
    return what == 0 ? pairs.size() : pairs.isEmpty() ? -2 : pairs.iterator().next();
  }
  public int longFrom(int x, int t, int n) {
    if (!okX(x) || !okT(t) || !in(1, n, 48)) return -1;
    int c = 0;
    for (int i = 0; i < n; i++) if (seen(w.hour + i, x, thingAt(t))) c++;
    return c;
  }
  public int best(int t, int n, int what) {
    if (!okT(t) || !in(1, n, 48) || !in(0, what, 1)) return -1;
    int best = 0;
    for (int x = 0; x < 20; x++) if (longFrom(x, t, n) > longFrom(best, t, n)) best = x;
    return what == 0 ? best : longFrom(best, t, n);
  }
  public int dawns(int x, int t) {
    if (!okX(x) || !okT(t)) return -1;
    for (int i = 0; i <= 48; i++) if (seen(w.hour + i, x, thingAt(t))) return i;
    return -2;
  }
  public int near(int x, int what) {
    if (!okX(x) || !in(0, what, 1)) return -1;
    for (int far = 0; far < 20; far++)
      for (int t = 0; t < text.things.size(); t++) {
        int at = spot(w.hour, x, thingAt(t));
        if (at >= 0 && Math.abs(at - x) == far) return what == 0 ? t : far;
      }
    return -2;
  }
  public int crowd(int at) {
    if (!okX(at)) return -1;
    int bits = 0;
    for (int t = 0; t < text.things.size(); t++)
      for (int x : w.x) if (spot(w.hour, x, thingAt(t)) == at) bits |= 1 << t;
    return bits;
  }
  public int rich(int n, int what) {
    if (!in(0, n, 48) || !in(0, what, 1)) return -1;
    if (w.x.length == 0) return -2;
    int best = 0;
    for (int s = 0; s < w.x.length; s++) if (book(s, n) > book(best, n)) best = s;
    return what == 0 ? best : book(best, n);
  }
  public int umbrellas(int k, int i) {
    if (!in(1, k, 3) || !in(-1, i, k - 1)) return -1;
    int[] views = new int[20];
    for (int x = 0; x < 20; x++)
      for (int t = 0; t < text.things.size(); t++) if (seen(w.hour, x, thingAt(t))) views[x] |= 1 << t;
    int most = -1; int[] which = null;
    for (int a = 0; a < 20; a++)
      for (int b = k < 2 ? 19 : a + 1; b < 20; b++)
        for (int c = k < 3 ? 19 : b + 1; c < 20; c++) {
          int n = Integer.bitCount(views[a] | (k < 2 ? 0 : views[b]) | (k < 3 ? 0 : views[c]));
          if (n > most) { most = n; which = new int[] {a, b, c}; }
        }
    return i < 0 ? most : which[i];
  }
  public int worth(int s, int t, int n, int m) {
    if (!okS(s) || !okT(t) || !in(1, n, 999) || !in(1, m, 48)) return -100000;
    int lent = n, got = 0, unseen = 0;
    for (int h = w.hour; h < w.hour + m; h++) {
      if (seen(h, w.x[s], thingAt(t))) { got += rent(h, w.x[s], thingAt(t), lent); unseen = 0; continue; }
      if (++unseen == text.grace) return got - n;
      lent = Math.min(99999, lent + lent * interest(h, lent) / 100);
    }
    return got - n + (seen(w.hour + m, w.x[s], thingAt(t)) ? lent : 0);
  }
  World in(int n, int seed) {
    World v = w.twin();
    go(v, n, seed, text.winds);
    return v;
  }
  public int book(int s, int n) {
    if (!okS(s) || !in(0, n, 48)) return -1;
    World v = in(n, text.seed);
    int all = v.coins[s];
    for (int key : v.loans.keySet()) if (key / 10 == s) all += v.loans.get(key)[0];
    return all;
  }
  boolean hid(int x, int t, int hour) {
    for (int from : w.x) if (seen(hour, from, new int[] {x, t})) return false;
    return true;
  }
  public int hidden(int x, int to, int t) {
    if (!okX(x) || !okX(to) || !in(1, t, 9)) return -1;
    Set<Integer> at = new HashSet<>();
    if (hid(x, t, w.hour)) at.add(x);
    for (int n = 0; n <= 48; n++) {
      if (at.contains(to)) return n;
      Set<Integer> then = new HashSet<>();
      for (int y : at) for (int z = y - 1; z <= y + 1; z++) if (okX(z) && hid(z, t, w.hour + n + 1)) then.add(z);
      at = then;
    }
    return -2;
  }
  public int cool() {
    for (int n = 0; n <= 48; n++) {
      boolean some = false;
      for (int x : w.x) for (int[] thing : text.things) some |= seen(w.hour + n, x, thing);
      if (!some) return n;
    }
    return -2;
  }
  public int heatIn(int n) { return in(0, n, 48) ? heat(w.hour + n) : -1; }
  public int lentIn(int s, int t, int n) {
    if (!okS(s) || !okT(t) || !in(0, n, 48)) return -1;
    int[] loan = in(n, text.seed).loans.get(10 * s + t);
    return loan == null ? -2 : loan[0];
  }
  public int year(int s, int t, int n, int seeds) {
    if (!okS(s) || !okT(t) || !in(0, n, 48) || !in(1, seeds, 20)) return -1;
    int c = 0;
    for (int i = 0; i < seeds; i++) if (in(n, text.seed + i).loans.containsKey(10 * s + t)) c++;
    return c;
  }
  public int tell(int x, int at, int n) {
    if (!okX(x) || !in(-1, at, 19) || !in(0, n, 24) || told.size() == 20) return -1;
    told.add(new int[] {x, at, w.hour + n});
    return told.size() - 1;
  }
  public int forget() { int n = told.size(); told.clear(); return n; }
  List<int[]> left(int k) {
    List<int[]> all = new ArrayList<>();
    for (int x = 0; x < 20; x++)
      for (int t = 1; t < 10; t++) {
        boolean so = true;
        for (int[] one : told.subList(0, k)) so &= spot(one[2], one[0], new int[] {x, t}) == one[1];
        if (so) all.add(new int[] {x, t});
      }
    return all;
  }
  public int stands(int k) { return in(0, k, told.size()) ? left(k).size() : -1; }
  public int sure(int k, int what) {
    if (!in(0, k, told.size()) || !in(0, what, 1)) return -1;
    Set<Integer> of = new HashSet<>();
    for (int[] one : left(k)) of.add(one[what]);
    return of.size() == 1 ? of.iterator().next() : -2;
  }
  public int look(int k, int n) {
    if (!in(0, k, told.size()) || !in(0, n, 24)) return -1;
    List<int[]> left = left(k);
    if (left.isEmpty()) return -2;
    int best = -1, least = 999;
    for (int x = 0; x < 20; x++) {
      Map<Integer, Integer> parts = new HashMap<>();
      int worst = 0;
      for (int[] one : left) worst = Math.max(worst, parts.merge(spot(w.hour + n, x, one), 1, Integer::sum));
      if (worst < least) { least = worst; best = x; }
    }
    return best;
  }
  public boolean hold(int slot) {
    if (!in(0, slot, 2)) return false;
    slots[slot] = w.twin();
    return true;
  }
  public boolean restore(int slot) {
    if (!in(0, slot, 2) || slots[slot] == null) return false;
    w = slots[slot].twin();
    past.clear();
    return true;
  }
  static int sum(int[] row) { int n = 0; for (int one : row) n += one; return n; }
  public int count(int what) {
    int lent = 0, full = 0, seen = 0;
    for (int[] loan : w.loans.values()) lent += loan[0];
    for (World slot : slots) if (slot != null) full++;
    for (int x : w.x) for (int t = 0; t < text.things.size(); t++) if (seen(w.hour, x, thingAt(t))) seen |= 1 << t;
    int[] all = {text.things.size(), w.x.length, w.hour, w.hour % 24, w.hour / 24, w.loans.size(), lent, sum(w.coins),
        sum(w.gone), tape.length(), past.size(), told.size(), full, wind(w.hour, text.seed, text.winds) ? 1 : 0,
        sum(w.rent), heat(w.hour), seen};
    return in(0, what, 16) ? all[what] : -1;
  }
}
