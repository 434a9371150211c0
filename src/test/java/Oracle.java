import java.math.BigInteger;
import java.util.ArrayDeque;
import java.util.ArrayList;
import java.util.Arrays;
import java.util.List;

/**
 * Long rows of calls, made by a counter, on the class and on a second telling of the document that
 * shares nothing with it: kinds under kinds by recursion, states copied whole, every set and row tried.
 * Every answer and, behind every call, the digest and STATUS must be alike.
 */
public final class Oracle {
  private static int wrong = 0;

  // ---------------------------------------------------------------- the second telling

  /** ANGLE of a MAN: PLAIN, LIAR under PLAIN, SAINT under PLAIN, COOK under LIAR, BOSUN, ADMIRAL under SAINT. */
  static int stand(int kind, int m, int day) {
    if (kind == 0) return m;
    if (kind == 1) return Math.min(90, stand(0, m, day) + 5);
    if (kind == 2) return Math.max(0, stand(0, m, day) - 10);
    if (kind == 3) return day % 7 == 0 ? 90 : stand(1, m, day);
    if (kind == 4) return Math.min(90, stand(0, m, day) + (int) Math.ceil(stand(0, m, day) / 2.0));
    return (int) Math.floor(stand(2, m, day) / 3.0);
  }

  static int sight(int kind, int a, int day) {
    int s;
    if (kind == 0) s = a;
    else if (kind == 1) s = sight(0, a, day) + 2;
    else if (kind == 2) s = sight(0, a, day) - 3;
    else if (kind == 3) s = sight(1, a, day) + (a >= 30 ? 1 : 0) + (a >= 60 ? 1 : 0) + (a >= 90 ? 1 : 0);
    else if (kind == 4) s = 10 * (sight(0, a, day) / 10);
    else s = sight(2, a, day) - (day % 2 == 1 ? 1 : 0);
    return Math.max(0, s);
  }

  static final class Model implements Cloneable {
    int place = 0, log = 0, course = 5, day = 0;
    int[] fog = new int[6];
    List<int[]> men = new ArrayList<>();
    List<Integer> readers = new ArrayList<>();
    List<int[]> seen = new ArrayList<>(), notes = new ArrayList<>(), marks = new ArrayList<>();
    List<Model> past = new ArrayList<>();

    Model twin() {
      Model t = new Model();
      t.place = place; t.log = log; t.course = course; t.day = day;
      t.fog = fog.clone();
      for (int[] m : men) t.men.add(m.clone());
      t.readers.addAll(readers);
      t.seen.addAll(seen); t.notes.addAll(notes); t.marks.addAll(marks);
      t.past.addAll(past);
      return t;
    }

    boolean foggy() { return fog[day % 6] == 1; }
    int angle(int i) { return stand(men.get(i)[0], men.get(i)[1], day); }
    int reads(int i, int r) { return sight(readers.get(r), angle(i), day); }

    int error(int set, int r) {
      if (foggy()) return 0;
      int sum = 0;
      for (int i = 0; i < men.size(); i++) if ((set & 1 << i) != 0) sum += reads(i, r) - angle(i);
      return sum;
    }

    void noon(int set, int r) {
      int e = set == 0 ? 0 : error(set, r);
      log = Math.floorMod(log + course, 100);
      place = Math.floorMod(place + course + e, 100);
      for (int i = 0; i < men.size() && !foggy(); i++) {
        int[] m = men.get(i);
        m[1] = (set & 1 << i) != 0 ? Math.max(0, m[1] - 1) : Math.min(90, m[1] + 3);
      }
      day++;
    }

    int off() {
      int o = place - log;
      while (o > 49) o -= 100;
      while (o < -50) o += 100;
      return o;
    }

    void remember() {
      Model t = twin();
      t.past.clear();
      past.add(t);
      if (past.size() > 8) past.remove(0);
    }
  }

  Model ship = new Model();
  Model[] images = new Model[2];
  StringBuilder text = new StringBuilder();
  long above = 0, below = 1;
  int[] refused = new int[3];

  int bad(int answer) { refused[0]++; return answer; }
  boolean noMan(int i) { return i < 0 || i >= ship.men.size(); }
  boolean noReader(int r) { return r < 0 || r >= ship.readers.size(); }
  boolean noSet(int s) { return s < 0 || s >= 1 << ship.men.size(); }
  static boolean out(int v, int low, int high) { return v < low || v > high; }

  long call(String name, int a, int b, int c, int d) {
    switch (name) {
      case "ship": return courseTold(a);
      case "fog": return fogTold(a, b);
      case "man": return manCame(a, b);
      case "reader": return readerCame(a);
      case "type": return typed(a);
      case "clear": { int n = text.length(); text.setLength(0); return n; }
      case "read": return readText();
      case "noon": return noon(a, b);
      case "deed": return deed(a, b);
      case "undo": return undo();
      case "now": return out(a, 0, 3) ? bad(-2)
          : new int[] {ship.place, ship.log, ship.course, ship.fog[ship.day % 6]}[a];
      case "of": return noMan(a) || out(b, 0, 1) ? bad(-2) : ship.men.get(a)[b];
      case "angle": return noMan(a) ? bad(-2) : ship.angle(a);
      case "reads": return noMan(a) || noReader(b) ? bad(-2) : ship.reads(a, b);
      case "error": return noSet(a) || noReader(b) ? bad(-1000) : ship.error(a, b);
      case "off": return ship.off();
      case "then": return then(a, b, c);
      case "when": return when(a, b);
      case "best": return best(a, b, c);
      case "fewest": return fewest(a, b);
      case "cape": return cape(a, b, c);
      case "watch": return watch(a);
      case "mutiny": return mutiny(a);
      case "seen": return noMan(a) || out(b, 0, 99) || out(c, 0, 90) ? bad(-2) : row(ship.seen, a, b, c);
      case "began": return began(a, b);
      case "note": return noMan(a) || out(b, 0, 90) || out(c, 0, 99) || out(d, 0, 90) ? bad(-2)
          : row(ship.notes, a, b, c, d);
      case "mark": return noReader(a) || out(b, 0, 90) || out(c, 0, 99) || out(d, 0, 99) ? bad(-2)
          : row(ship.marks, a, b, c, d);
      case "forget": return forget(a);
      case "is": return noMan(a) ? bad(-2) : bits(kindsOfMan(a));
      case "look": return noMan(a) ? bad(-2) : look(kindsOfMan(a));
      case "kinds": return noReader(a) ? bad(-2) : bits(kindsOfReader(a));
      case "ask": return noReader(a) ? bad(-2) : ask(kindsOfReader(a));
      case "officers": return officers(a, b);
      case "slips": return slips(a, b, c);
      case "voyages": return voyages(a, b);
      case "part": return a == 0 ? above : a == 1 ? below : bad(-2);
      case "image": if (out(a, 0, 1)) return bad(-2); images[a] = ship.twin(); return 1;
      case "from": return from(a);
      case "status": return out(a, 0, 2) ? bad(-1) : refused[a];
      case "count": return count(a);
      default: return digest();
    }
  }

  long courseTold(int course) {
    if (out(course, 0, 9)) return bad(-2);
    int n = ship.men.size();
    ship = new Model();
    ship.course = course;
    return n;
  }

  long fogTold(int d, int is) {
    if (out(d, 0, 5) || out(is, 0, 1)) return bad(-2);
    int was = ship.fog[d];
    ship.fog[d] = is;
    ship.past.clear();
    return was;
  }

  long manCame(int kind, int shame) {
    if (out(kind, 0, 5) || out(shame, 0, 90)) return bad(-2);
    if (ship.men.size() == 6) { refused[2]++; return -4; }
    ship.men.add(new int[] {kind, shame});
    ship.past.clear();
    return ship.men.size() - 1;
  }

  long readerCame(int kind) {
    if (out(kind, 0, 5)) return bad(-2);
    if (ship.readers.size() == 3) { refused[2]++; return -4; }
    ship.readers.add(kind);
    ship.past.clear();
    return ship.readers.size() - 1;
  }

  long typed(int c) {
    if (out(c, 0, 127)) return bad(-2);
    if (text.length() == 150) { refused[2]++; return -4; }
    text.append((char) c);
    return text.length();
  }

  long noon(int set, int r) {
    if (noSet(set) || noReader(r)) return bad(-2);
    if (ship.day == 999) { refused[1]++; return -3; }
    ship.remember();
    ship.noon(set, r);
    return ship.place;
  }

  long deed(int i, int n) {
    if (noMan(i) || out(n, 1, 90)) return bad(-2);
    ship.remember();
    ship.men.get(i)[1] = Math.min(90, ship.men.get(i)[1] + n);
    return ship.men.get(i)[1];
  }

  long undo() {
    if (ship.past.isEmpty()) { refused[1]++; return -3; }
    Model was = ship.past.remove(ship.past.size() - 1);
    ship.place = was.place; ship.log = was.log; ship.day = was.day;
    for (int i = 0; i < ship.men.size(); i++) ship.men.get(i)[1] = was.men.get(i)[1];
    return ship.day;
  }

  long then(int set, int r, int m) {
    if (noSet(set) || noReader(r) || out(m, 0, 60)) return bad(-1000);
    Model t = ship.twin();
    while (m-- > 0) t.noon(set, r);
    return t.off();
  }

  long when(int i, int x) {
    if (noMan(i) || out(x, 1, 90)) return bad(-2);
    Model t = ship.twin();
    for (int k = 0; k <= 60; k++, t.noon(0, 0)) if (t.angle(i) >= x) return k;
    return -1;
  }

  long best(int n, int r, int what) {
    if (out(n, 0, ship.men.size()) || noReader(r) || out(what, 0, 1)) return bad(-2);
    int at = -1;
    for (int s = (1 << ship.men.size()) - 1; s >= 0; s--)
      if (Integer.bitCount(s) == n && (at < 0 || Math.abs(ship.error(s, r)) <= Math.abs(ship.error(at, r)))) at = s;
    return what == 0 ? at : Math.abs(ship.error(at, r));
  }

  long fewest(int e, int r) {
    if (out(e, -99, 99) || noReader(r)) return bad(-2);
    for (int n = 0; n <= ship.men.size(); n++)
      for (int s = 0; s < 1 << ship.men.size(); s++)
        if (Integer.bitCount(s) == n && ship.error(s, r) == e) return s;
    return -1;
  }

  /** Every row by its number to the base of men and nobody, the first noon most. */
  long cape(int x, int r, int i) {
    if (out(x, 0, 99) || noReader(r) || i < -1) return bad(-10);
    int base = ship.men.size() + 1;
    for (int n = 0; n <= 5; n++) {
      for (int code = 0; code < (int) Math.pow(base, n); code++) {
        int[] row = new int[n];
        for (int k = n - 1, rest = code; k >= 0; k--, rest /= base) row[k] = rest % base - 1;
        Model t = ship.twin();
        for (int whom : row) t.noon(whom < 0 ? 0 : 1 << whom, r);
        if (t.place == x) return i == -1 ? n : i < n ? row[i] : -5;
      }
    }
    return -6;
  }

  long watch(int i) {
    if (i != -1 && noMan(i)) return bad(-10);
    int n = ship.men.size();
    int ways = 0;
    int[] first = null;
    for (int code = 0; code < (int) Math.pow(ship.readers.size(), n); code++) {
      int[] who = new int[n];
      for (int k = n - 1, rest = code; k >= 0; k--, rest /= ship.readers.size()) who[k] = rest % ship.readers.size();
      if (java.util.stream.IntStream.range(0, n).map(k -> ship.reads(k, who[k])).distinct().count() == n) {
        if (first == null) first = who;
        ways++;
      }
    }
    return i == -1 ? ways : first == null ? -6 : first[i];
  }

  long mutiny(int r) {
    if (noReader(r)) return bad(-2);
    int best = 0;
    for (int x = 0; x < 200; x++) {
      int s = 0;
      for (int i = 0; i < ship.men.size(); i++) if (ship.reads(i, r) == x) s |= 1 << i;
      int more = Integer.bitCount(s) - Integer.bitCount(best);
      if (more > 0 || more == 0 && s != 0
          && Integer.numberOfTrailingZeros(s) < Integer.numberOfTrailingZeros(best)) best = s;
    }
    return best;
  }

  long row(List<int[]> rows, int... row) {
    if (rows.size() == 6) { refused[2]++; return -4; }
    rows.add(row);
    return rows.size();
  }

  long began(int i, int what) {
    if (noMan(i) || out(what, 0, 2)) return bad(-2);
    List<Integer> fit = new ArrayList<>();
    for (int s = 0; s <= 90; s++) {
      boolean all = true;
      for (int[] row : ship.seen) {
        if (row[0] != i) continue;
        int m = s;
        for (int d = 0; d < row[1]; d++) if (ship.fog[d % 6] == 0) m = Math.min(90, m + 3);
        all &= stand(ship.men.get(i)[0], m, row[1]) == row[2];
      }
      if (all) fit.add(s);
    }
    if (what == 0) return fit.size();
    return fit.isEmpty() ? -1 : fit.get(what == 1 ? 0 : fit.size() - 1);
  }

  long forget(int what) {
    if (out(what, 0, 2)) return bad(-2);
    List<int[]> rows = what == 0 ? ship.seen : what == 1 ? ship.notes : ship.marks;
    int n = rows.size();
    rows.clear();
    return n;
  }

  List<Integer> kindsOfMan(int i) {
    List<Integer> fit = new ArrayList<>();
    for (int kind = 0; kind < 6; kind++) {
      int k = kind;
      if (ship.notes.stream().allMatch(n -> n[0] != i || stand(k, n[1], n[2]) == n[3])) fit.add(k);
    }
    return fit;
  }

  List<Integer> kindsOfReader(int r) {
    List<Integer> fit = new ArrayList<>();
    for (int kind = 0; kind < 6; kind++) {
      int k = kind;
      if (ship.marks.stream().allMatch(n -> n[0] != r || sight(k, n[1], n[2]) == n[3])) fit.add(k);
    }
    return fit;
  }

  static long bits(List<Integer> kinds) {
    return kinds.stream().mapToInt(k -> 1 << k).sum();
  }

  static int crowd(int[] values) {
    int[] sorted = values.clone();
    Arrays.sort(sorted);
    int most = 0;
    for (int k = 0, run = 0; k < sorted.length; k++) {
      run = k > 0 && sorted[k] == sorted[k - 1] ? run + 1 : 1;
      most = Math.max(most, run);
    }
    return most;
  }

  static long look(List<Integer> kinds) {
    int at = -1, least = 99;
    for (int code = 79; code >= 0 && !kinds.isEmpty(); code--) {
      int day = code / 10, m = code % 10 * 10;
      int c = crowd(kinds.stream().mapToInt(k -> stand(k, m, day)).toArray());
      if (c <= least) { least = c; at = code; }
    }
    return at;
  }

  static long ask(List<Integer> kinds) {
    int at = -1, least = 99;
    for (int code = 190; code >= 0 && !kinds.isEmpty(); code--) {
      if (code % 100 > 90) continue;
      int day = code / 100, a = code % 100;
      int c = crowd(kinds.stream().mapToInt(k -> sight(k, a, day)).toArray());
      if (c <= least) { least = c; at = code; }
    }
    return at;
  }

  long officers(int r, int k) {
    if (noReader(r) || k < -1) return bad(-10);
    int n = ship.men.size();
    int[][] one = new int[n][n], two = new int[n][n];
    for (int i = 0; i < n; i++)
      for (int j = 0; j < n; j++) {
        one[i][j] = -Math.abs(i == j ? ship.error(1 << i, r) : ship.error((1 << i) + (1 << j), r));
        two[i][j] = ship.angle(j) - ship.angle(i);
      }
    List<Integer> rest = new ArrayList<>();
    for (int i = 0; i < n; i++)
      for (int j = 0; j < n; j++) {
        boolean stays = true;
        for (int o = 0; o < n; o++) stays &= one[o][j] <= one[i][j] && two[i][o] <= two[i][j];
        if (stays) rest.add(10 * i + j);
      }
    return k == -1 ? rest.size() : k < rest.size() ? rest.get(k) : -5;
  }

  /** Every way to slip, one by one. */
  long slips(int set, int r, int c) {
    if (noSet(set) || noReader(r) || out(c, 0, 10)) return bad(-2);
    BigInteger up = BigInteger.ZERO, down = BigInteger.TEN.pow(Integer.bitCount(set));
    for (int slip = 0; slip < 64; slip++) {
      if ((slip & ~set) != 0) continue;
      if (!ship.foggy() && ship.error(set, r) + Integer.bitCount(slip) != 0) continue;
      up = up.add(BigInteger.valueOf(c).pow(Integer.bitCount(slip))
          .multiply(BigInteger.valueOf(10 - c).pow(Integer.bitCount(set) - Integer.bitCount(slip))));
    }
    BigInteger common = up.gcd(down);
    above = up.divide(common).longValue();
    below = down.divide(common).longValue();
    return 1;
  }

  long voyages(int seed, int n) {
    if (out(seed, 0, 999999) || out(n, 0, 60)) return bad(-2);
    BigInteger x = BigInteger.valueOf(seed);
    Model t = ship.twin();
    long sum = 0;
    for (int k = 0; k < n; k++) {
      x = x.multiply(BigInteger.valueOf(1103515245)).add(BigInteger.valueOf(12345)).mod(BigInteger.TWO.pow(31));
      int i = x.shiftRight(16).mod(BigInteger.valueOf(6)).intValue();
      int r = x.shiftRight(20).mod(BigInteger.valueOf(3)).intValue();
      t.noon(noMan(i) || noReader(r) ? 0 : 1 << i, r);
      sum += Math.abs(t.off());
    }
    return sum;
  }

  long from(int i) {
    if (out(i, 0, 1)) return bad(-2);
    if (images[i] == null) { refused[1]++; return -3; }
    ship = images[i].twin();
    return 1;
  }

  long count(int what) {
    switch (what) {
      case 0: return ship.men.size();
      case 1: return ship.readers.size();
      case 2: return ship.day;
      case 3: return ship.men.stream().mapToInt(m -> m[1]).sum();
      case 4: return ship.seen.size();
      case 5: return ship.notes.size();
      case 6: return ship.marks.size();
      case 7: return ship.past.size();
      case 8: return text.length();
      default: return bad(-2);
    }
  }

  long digest() {
    List<Long> v = new ArrayList<>();
    for (int k = 0; k <= 8; k++) v.add(count(k));
    v.add((long) ship.place); v.add((long) ship.log); v.add((long) ship.course);
    for (int f : ship.fog) v.add((long) f);
    for (int[] m : ship.men) for (int n : m) v.add((long) n);
    for (int k : ship.readers) v.add((long) k);
    for (int[] row : ship.seen) for (int n : row) v.add((long) n);
    for (int[] row : ship.notes) for (int n : row) v.add((long) n);
    for (int[] row : ship.marks) for (int n : row) v.add((long) n);
    v.add(above); v.add(below);
    long h = 1543;
    for (long n : v) h = h * 31 + n;
    return h;
  }

  /** A TOKEN: its place and what it is; what is none has a sign that no grammar takes. */
  static final class Token {
    final int at;
    final String is;
    Token(int at, String is) { this.at = at; this.is = is; }
  }

  static final class Fault extends RuntimeException {
    private static final long serialVersionUID = 1L;
    final int at;
    Fault(int at) { super("at " + at, null, false, false); this.at = at; }
  }

  ArrayDeque<Token> tokens() {
    ArrayDeque<Token> all = new ArrayDeque<>();
    java.util.regex.Matcher m = java.util.regex.Pattern.compile("[a-z]+|[0-9]+|;|[^ ]", java.util.regex.Pattern.DOTALL)
        .matcher(text);
    while (m.find()) all.add(new Token(m.start(), m.group().matches("[0-9]{3,}") ? "?" : m.group()));
    all.add(new Token(text.length(), "end"));
    // a word "end" is none either, but it is not the end
    return all;
  }

  int number(ArrayDeque<Token> row, List<Integer> may) {
    Token t = row.peek();
    if (t.at < text.length() && t.is.matches("[0-9]+") && may.contains(Integer.parseInt(t.is))) {
      row.remove();
      return Integer.parseInt(t.is);
    }
    throw new Fault(t.at);
  }

  static List<Integer> range(int low, int high) {
    List<Integer> all = new ArrayList<>();
    for (int n = low; n <= high; n++) all.add(n);
    return all;
  }

  static void end(ArrayDeque<Token> row) {
    if (!row.peek().is.equals(";")) throw new Fault(row.peek().at);
    row.remove();
  }

  long readText() {
    try {
      ArrayDeque<Token> row = tokens();
      Model made = null;
      int items = 0;
      while (made == null || row.peek().at < text.length()) {
        Token word = row.peek();
        if (word.is.equals("ship") != (made == null)) throw new Fault(word.at);
        made = item(row, made);
        items++;
      }
      ship = made;
      return items;
    } catch (Fault f) {
      return -10 - f.at;
    }
  }

  Model item(ArrayDeque<Token> row, Model made) {
    Token word = row.remove();
    switch (word.is) {
      case "ship":
        made = new Model();
        made.course = number(row, range(0, 9));
        break;
      case "fog":
        made.fog[0] = number(row, range(0, 1));
        for (int d = 1; d < 6 && !row.peek().is.equals(";"); d++) made.fog[d] = number(row, range(0, 1));
        break;
      case "man":
        if (made.men.size() == 6) throw new Fault(word.at);
        made.men.add(new int[] {number(row, range(0, 5)), number(row, range(0, 90))});
        break;
      case "reader":
        if (made.readers.size() == 3) throw new Fault(word.at);
        made.readers.add(number(row, range(0, 5)));
        break;
      case "deed":
        int[] man = made.men.get(number(row, range(0, made.men.size() - 1)));
        man[1] = Math.min(90, man[1] + number(row, range(1, 90)));
        break;
      case "noon":
        int r = number(row, range(0, made.readers.size() - 1));
        List<Integer> left = range(0, made.men.size() - 1);
        int set = 0;
        while (!row.peek().is.equals(";")) {
          int i = number(row, left);
          left.remove((Integer) i);
          set |= 1 << i;
        }
        made.noon(set, r);
        break;
      default:
        throw new Fault(word.at);
    }
    end(row);
    return made;
  }

  // ---------------------------------------------------------------- the class by the same names

  static long call(ShameAngles x, String name, int a, int b, int c, int d) {
    switch (name) {
      case "ship": return x.ship(a);
      case "fog": return x.fog(a, b);
      case "man": return x.man(a, b);
      case "reader": return x.reader(a);
      case "type": return x.type(a);
      case "clear": return x.clear();
      case "read": return x.read();
      case "noon": return x.noon(a, b);
      case "deed": return x.deed(a, b);
      case "undo": return x.undo();
      case "now": return x.now(a);
      case "of": return x.of(a, b);
      case "angle": return x.angle(a);
      case "reads": return x.reads(a, b);
      case "error": return x.error(a, b);
      case "off": return x.off();
      case "then": return x.then(a, b, c);
      case "when": return x.when(a, b);
      case "best": return x.best(a, b, c);
      case "fewest": return x.fewest(a, b);
      case "cape": return x.cape(a, b, c);
      case "watch": return x.watch(a);
      case "mutiny": return x.mutiny(a);
      case "seen": return x.seen(a, b, c);
      case "began": return x.began(a, b);
      case "note": return x.note(a, b, c, d);
      case "mark": return x.mark(a, b, c, d);
      case "forget": return x.forget(a);
      case "is": return x.is(a);
      case "look": return x.look(a);
      case "kinds": return x.kinds(a);
      case "ask": return x.ask(a);
      case "officers": return x.officers(a, b);
      case "slips": return x.slips(a, b, c);
      case "voyages": return x.voyages(a, b);
      case "part": return x.part(a);
      case "image": return x.image(a);
      case "from": return x.from(a);
      case "status": return x.status(a);
      case "count": return x.count(a);
      default: return x.digest();
    }
  }

  // ---------------------------------------------------------------- the runs

  private static long chance = 20261119L;

  static int any(int below) {
    chance = chance * 6364136223846793005L + 1442695040888963407L;
    return (int) ((chance >>> 33) % below);
  }

  static int between(int low, int high) { return low + any(high - low + 1); }

  /** A number mostly as told, at its ends at times, seldom not as told. */
  static int told(int low, int high) {
    int how = any(40);
    if (how == 0) return low - 1;
    if (how == 1) return high + 1;
    if (how == 2) return any(2) == 0 ? Integer.MIN_VALUE : Integer.MAX_VALUE;
    if (how < 6) return low;
    if (how < 9) return high;
    return high < low ? low : between(low, high);
  }

  final ShameAngles x = new ShameAngles();
  final List<String> calls = new ArrayList<>();
  boolean broken = false;

  void both(String name, int a, int b, int c, int d) {
    calls.add(name + " " + a + " " + b + " " + c + " " + d);
    if (calls.size() > 500) return;
    long want = call(name, a, b, c, d);
    long got = call(x, name, a, b, c, d);
    boolean alike = got == want && x.digest() == digest();
    for (int k = 0; k < 3; k++) alike &= x.status(k) == refused[k];
    if (!alike && !broken) {
      broken = true;
      wrong++;
      System.out.println("answered " + got + ", due is " + want + ", or the digest or STATUS differs, behind " + calls);
    }
  }

  void type(String told) {
    for (int k = 0; k < told.length(); k++) {
      int c = told.charAt(k);
      call("type", c, 0, 0, 0);
      x.type(c);
    }
    calls.add("text " + told);
  }

  int menNow() { return ship.men.size(); }
  int manNow() { return told(0, menNow() - 1); }
  int readerNow() { return told(0, ship.readers.size() - 1); }
  int setNow() { return told(0, (1 << menNow()) - 1); }

  /** SEEN ones, NOTES and MARKS that are mostly true of somebody, or all are soon none. */
  void tellTruth() {
    int what = any(3);
    int day = any(3) == 0 ? told(0, 99) : any(9);
    if (what == 0 && menNow() > 0) {
      int i = any(menNow());
      int m = between(0, 90);
      for (int d = 0; d < day && d < 100; d++) if (ship.fog[d % 6] == 0) m = Math.min(90, m + 3);
      both("seen", i, day, any(8) == 0 ? told(0, 90) : stand(ship.men.get(i)[0], m, Math.max(day, 0)), 0);
    } else if (what == 1) {
      int m = between(0, 90);
      both("note", manNow(), m, day, any(8) == 0 ? told(0, 90) : stand(any(6), m, Math.max(day, 0)));
    } else {
      int a = between(0, 90);
      both("mark", readerNow(), a, day, any(8) == 0 ? told(0, 99) : sight(any(6), a, Math.max(day, 0)));
    }
  }

  void change() {
    switch (any(14)) {
      case 0: if (any(3) == 0) both("ship", told(0, 9), 0, 0, 0); break;
      case 1: both("fog", told(0, 5), told(0, 1), 0, 0); break;
      case 2: both("man", told(0, 5), told(0, 90), 0, 0); break;
      case 3: both("reader", told(0, 5), 0, 0, 0); break;
      case 4: both("deed", manNow(), told(1, any(3) == 0 ? 90 : 9), 0, 0); break;
      case 5: both("undo", 0, 0, 0, 0); break;
      case 6: both("image", told(0, 1), 0, 0, 0); break;
      case 7: if (any(2) == 0) both("from", told(0, 1), 0, 0, 0); break;
      case 8: if (any(4) == 0) both("forget", told(0, 2), 0, 0, 0); break;
      case 9: tellTruth(); break;
      case 10: both("type", told(0, 127), 0, 0, 0); break;
      case 11: if (any(4) == 0) both("clear", 0, 0, 0, 0); break;
      default: both("noon", setNow(), readerNow(), 0, 0);
    }
  }

  void ask() {
    int i = manNow(), r = readerNow();
    switch (any(26)) {
      case 0: both("now", told(0, 3), 0, 0, 0); break;
      case 1: both("of", i, told(0, 1), 0, 0); break;
      case 2: both("angle", i, 0, 0, 0); break;
      case 3: both("reads", i, r, 0, 0); break;
      case 4: both("error", setNow(), r, 0, 0); break;
      case 5: both("off", 0, 0, 0, 0); break;
      case 6: both("then", setNow(), r, told(0, 60), 0); break;
      case 7: both("when", i, told(1, 90), 0, 0); break;
      case 8: both("best", told(0, menNow()), r, told(0, 1), 0); break;
      case 9: both("fewest", any(2) == 0 ? told(-99, 99) : between(-15, 15), r, 0, 0); break;
      case 10:
        int near = Math.floorMod(ship.place + any(6) * ship.course + between(-8, 8), 100);
        both("cape", any(4) == 0 ? told(0, 99) : near, r, told(-1, 5), 0);
        break;
      case 11: both("watch", any(3) == 0 ? -1 : i, 0, 0, 0); break;
      case 12: both("mutiny", r, 0, 0, 0); break;
      case 13: case 14: both("began", i, told(0, 2), 0, 0); break;
      case 15: both("is", i, 0, 0, 0); break;
      case 16: both("look", i, 0, 0, 0); break;
      case 17: both("kinds", r, 0, 0, 0); break;
      case 18: both("ask", r, 0, 0, 0); break;
      case 19: both("officers", r, told(-1, 7), 0, 0); break;
      case 20: both("slips", setNow(), r, told(0, 10), 0); break;
      case 21: both("voyages", told(0, 999999), told(0, 60), 0, 0); break;
      case 22: both("part", told(0, 1), 0, 0, 0); break;
      case 23: both("status", told(0, 2), 0, 0, 0); break;
      case 24: both("count", told(0, 8), 0, 0, 0); break;
      default: both("digest", 0, 0, 0, 0);
    }
  }

  static String blanks(boolean needed) {
    int n = any(6) == 0 ? any(4) : needed ? 1 : any(2);
    return " ".repeat(needed ? Math.max(1, n) : n);
  }

  /** The number of one who is there, mostly. */
  static int right(int many) { return many == 0 || any(20) == 0 ? any(many + 2) : any(many); }

  /** 150 bytes at most; more often than not behind a whole ITEM. */
  static String cut(StringBuilder s) {
    if (s.length() > 150) {
      s.setLength(150);
      if (any(4) != 0) s.setLength(s.lastIndexOf(";") + 1);
    }
    return s.toString();
  }

  /** ITEMS that are mostly right, with a byte changed, put in or left out at times. */
  static String scribble() {
    StringBuilder s = new StringBuilder(blanks(false));
    if (any(20) != 0) s.append("ship").append(blanks(false)).append(between(0, 9)).append(";");
    int men = 0, readers = 0;
    for (int k = any(16); k > 0; k--) {
      s.append(blanks(false));
      int what = any(12);
      if (what > 6 && what != 8 && readers == 0 && any(12) != 0) what = 4;
      if (what == 7 && men == 0 && any(12) != 0) what = 0;
      if (what < 4 && men == 6 && any(12) != 0 || what > 3 && what < 6 && readers == 3 && any(12) != 0) what = 9;
      if (what < 4) { s.append("man").append(blanks(false)).append(between(0, 5)).append(blanks(true)).append(any(91)); men++; }
      else if (what < 6) { s.append("reader").append(blanks(false)).append(any(4) == 0 ? "0" : "").append(any(6)); readers++; }
      else if (what == 6) {
        s.append("fog");
        for (int d = any(12) == 0 ? 6 : any(6); d >= 0; d--) s.append(blanks(true)).append(any(12) == 0 ? "01" : "" + any(2));
      } else if (what == 7) s.append("deed").append(blanks(false)).append(right(men)).append(blanks(true)).append(any(20) == 0 ? any(95) : between(1, 90));
      else if (what == 8 && any(8) == 0) s.append(any(2) == 0 ? "ship 5" : "end");
      else {
        s.append("noon").append(blanks(false)).append(right(readers));
        for (int i = 0; i < men; i++) if (any(2) == 0) s.append(blanks(true)).append(any(20) == 0 ? any(men + 1) : i);
      }
      s.append(blanks(false)).append(";");
    }
    s.append(blanks(false));
    if (any(4) == 0) return cut(s);
    if (any(4) == 0 && s.length() > 0) s.setCharAt(any(s.length()), any(3) == 0 ? (char) any(128) : "; 019anz".charAt(any(8)));
    if (any(6) == 0 && s.length() > 0) s.deleteCharAt(any(s.length()));
    if (any(6) == 0) s.insert(any(s.length() + 1), "; 09az".charAt(any(6)));
    if (any(8) == 0) s.setLength(any(s.length() + 1));
    return cut(s);
  }

  static void run() {
    Oracle o = new Oracle();
    int shape = any(4);
    if (shape > 0) {
      o.both("ship", between(0, 9), 0, 0, 0);
      for (int d = 0; d < 6; d++) if (any(4) == 0) o.both("fog", d, 1, 0, 0);
      for (int k = any(8) == 0 ? 0 : between(1, 6); k > 0; k--) o.both("man", any(6), shape == 1 ? any(12) : any(91), 0, 0);
      for (int k = any(8) == 0 ? 0 : between(1, 3); k > 0; k--) o.both("reader", any(6), 0, 0, 0);
    }
    for (int k = 0; k < 120; k++) {
      if (any(3) == 0) o.change(); else o.ask();
    }
  }

  static void runTexts() {
    Oracle o = new Oracle();
    for (int k = 0; k < 3; k++) {
      o.both("clear", 0, 0, 0, 0);
      o.type(scribble());
      o.both("read", 0, 0, 0, 0);
      for (int n = 0; n < 6; n++) o.ask();
    }
  }

  public static void main(String[] args) {
    for (int k = 0; k < 1500; k++) run();
    for (int k = 0; k < 20000; k++) runTexts();
    System.out.println(wrong == 0 ? "all answers are alike" : wrong + " runs differ");
    if (wrong != 0) System.exit(1);
  }
}
