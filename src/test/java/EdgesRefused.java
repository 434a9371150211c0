import java.util.Arrays;
import java.util.function.Supplier;

/**
 * For each number of each call: the least and the greatest that is taken, the one just below and the one
 * just above them, and ones far away; what a refused call answers, what STATUS counts, that nothing else
 * changes; which of two refusals comes first; with nobody there, one, some, and all that may be.
 */
public final class EdgesRefused {
  private static final int MIN = Edge.MIN, MAX = Edge.MAX;

  interface Numbers {
    long on(ShameAngles x, int[] a);
  }

  /** A call, what it answers when BAD, whether it changes anything, the least and greatest of each number. */
  static final class Row {
    final String name;
    final int bad;
    final boolean changes;
    final Numbers call;
    final int[][] ranges;

    Row(String name, int bad, boolean changes, Numbers call, int[]... ranges) {
      this.name = name;
      this.bad = bad;
      this.changes = changes;
      this.call = call;
      this.ranges = ranges;
    }
  }

  private static int[] to(int low, int high) {
    return new int[] {low, high};
  }

  /** As the document tells them, for so many MEN and READERS. */
  private static Row[] rows(int men, int readers) {
    int[] man = to(0, men - 1);
    int[] reader = to(0, readers - 1);
    int[] set = to(0, (1 << men) - 1);
    int[] kind = to(0, 5);
    int[] shame = to(0, 90);
    int[] day = to(0, 99);
    return new Row[] {
      new Row("ship", -2, true, (x, a) -> x.ship(a[0]), to(0, 9)),
      new Row("fog", -2, true, (x, a) -> x.fog(a[0], a[1]), to(0, 5), to(0, 1)),
      new Row("man", -2, true, (x, a) -> x.man(a[0], a[1]), kind, shame),
      new Row("reader", -2, true, (x, a) -> x.reader(a[0]), kind),
      new Row("type", -2, true, (x, a) -> x.type(a[0]), to(0, 127)),
      new Row("noon", -2, true, (x, a) -> x.noon(a[0], a[1]), set, reader),
      new Row("deed", -2, true, (x, a) -> x.deed(a[0], a[1]), man, to(1, 90)),
      new Row("now", -2, false, (x, a) -> x.now(a[0]), to(0, 3)),
      new Row("of", -2, false, (x, a) -> x.of(a[0], a[1]), man, to(0, 1)),
      new Row("angle", -2, false, (x, a) -> x.angle(a[0]), man),
      new Row("reads", -2, false, (x, a) -> x.reads(a[0], a[1]), man, reader),
      new Row("error", -1000, false, (x, a) -> x.error(a[0], a[1]), set, reader),
      new Row("then", -1000, false, (x, a) -> x.then(a[0], a[1], a[2]), set, reader, to(0, 60)),
      new Row("when", -2, false, (x, a) -> x.when(a[0], a[1]), man, to(1, 90)),
      new Row("best", -2, false, (x, a) -> x.best(a[0], a[1], a[2]), to(0, men), reader, to(0, 1)),
      new Row("fewest", -2, false, (x, a) -> x.fewest(a[0], a[1]), to(-99, 99), reader),
      new Row("cape", -10, false, (x, a) -> x.cape(a[0], a[1], a[2]), to(0, 99), reader, to(-1, MAX)),
      new Row("watch", -10, false, (x, a) -> x.watch(a[0]), to(-1, men - 1)),
      new Row("mutiny", -2, false, (x, a) -> x.mutiny(a[0]), reader),
      new Row("seen", -2, true, (x, a) -> x.seen(a[0], a[1], a[2]), man, day, shame),
      new Row("began", -2, false, (x, a) -> x.began(a[0], a[1]), man, to(0, 2)),
      new Row("note", -2, true, (x, a) -> x.note(a[0], a[1], a[2], a[3]), man, shame, day, shame),
      new Row("mark", -2, true, (x, a) -> x.mark(a[0], a[1], a[2], a[3]), reader, shame, day, day),
      new Row("forget", -2, true, (x, a) -> x.forget(a[0]), to(0, 2)),
      new Row("is", -2, false, (x, a) -> x.is(a[0]), man),
      new Row("look", -2, false, (x, a) -> x.look(a[0]), man),
      new Row("kinds", -2, false, (x, a) -> x.kinds(a[0]), reader),
      new Row("ask", -2, false, (x, a) -> x.ask(a[0]), reader),
      new Row("officers", -10, false, (x, a) -> x.officers(a[0], a[1]), reader, to(-1, MAX)),
      new Row("slips", -2, true, (x, a) -> x.slips(a[0], a[1], a[2]), set, reader, to(0, 10)),
      new Row("voyages", -2, false, (x, a) -> x.voyages(a[0], a[1]), to(0, 999999), to(0, 60)),
      new Row("part", -2, false, (x, a) -> x.part(a[0]), to(0, 1)),
      new Row("image", -2, true, (x, a) -> x.image(a[0]), to(0, 1)),
      new Row("from", -2, true, (x, a) -> x.from(a[0]), to(0, 1)),
      new Row("status", -1, false, (x, a) -> x.status(a[0]), to(0, 2)),
      new Row("count", -2, false, (x, a) -> x.count(a[0]), to(0, 8)),
    };
  }

  private static String told(Row row, int[] a) {
    return row.name + Arrays.toString(a);
  }

  private static void bad(Supplier<ShameAngles> made, Row row, int[] a) {
    Edge.leaves(told(row, a), made, x -> row.call.on(x, a), row.bad, Edge.AS_BAD);
  }

  /** Not refused, or by its state alone: as FULL, as NO. */
  private static void taken(Supplier<ShameAngles> made, Row row, int[] a, int why) {
    if (why == Edge.AS_FULL || why == Edge.AS_NO) {
      Edge.leaves(told(row, a), made, x -> row.call.on(x, a), why == Edge.AS_FULL ? -4 : -3, why);
      return;
    }
    ShameAngles x = made.get();
    ShameAngles twin = made.get();
    row.call.on(x, a);
    for (int k = 0; k < 3; k++) {
      Edge.due(told(row, a) + ", status(" + k + ") behind it", x.status(k), twin.status(k));
    }
    if (!row.changes) {
      Edge.leavesAll(told(row, a), x, twin, Edge.NOTHING);
    }
  }

  private static int middle(int[] range) {
    return (int) (((long) range[0] + range[1]) / 2);
  }

  private static boolean takesNone(int[] range) {
    return range[1] < range[0];
  }

  /** All numbers in the middle of what is taken, but for the k-th. */
  private static int[] with(Row row, int k, int number) {
    int[] a = new int[row.ranges.length];
    for (int n = 0; n < a.length; n++) {
      a[n] = takesNone(row.ranges[n]) ? 0 : middle(row.ranges[n]);
    }
    a[k] = number;
    return a;
  }

  private static boolean othersTaken(Row row, int k) {
    for (int n = 0; n < row.ranges.length; n++) {
      if (n != k && takesNone(row.ranges[n])) return false;
    }
    return true;
  }

  /** Refused by what is there already, with all numbers as told. */
  private static int whyFull(Row row, int[] a, int men, int readers) {
    if (row.name.equals("man") && men == 6) return Edge.AS_FULL;
    if (row.name.equals("reader") && readers == 3) return Edge.AS_FULL;
    // a rich ship keeps IMAGE 0 alone
    if (row.name.equals("from") && a[0] == 1) return Edge.AS_NO;
    return Edge.NOTHING;
  }

  private static void bounds(Row row, int men, int readers) {
    Supplier<ShameAngles> made = () -> Edge.rich(men, readers);
    for (int k = 0; k < row.ranges.length; k++) {
      int low = row.ranges[k][0];
      int high = row.ranges[k][1];
      if (low != MIN) {
        bad(made, row, with(row, k, low - 1));
        bad(made, row, with(row, k, MIN));
      }
      if (high != MAX) {
        bad(made, row, with(row, k, high + 1));
        bad(made, row, with(row, k, MAX));
      }
      if (takesNone(row.ranges[k]) || !othersTaken(row, k)) {
        bad(made, row, with(row, k, low));
      } else {
        for (int number : new int[] {low, high}) {
          int[] a = with(row, k, number);
          taken(made, row, a, whyFull(row, a, men, readers));
        }
      }
    }
  }

  /** Two numbers that are not as told are refused once. */
  private static void twoAtOnce(Row row, int men, int readers) {
    Supplier<ShameAngles> made = () -> Edge.rich(men, readers);
    for (int k = 0; k + 1 < row.ranges.length; k++) {
      int[] a = with(row, k, row.ranges[k][0] - 1);
      a[k + 1] = row.ranges[k + 1][0] - 1;
      bad(made, row, a);
    }
  }

  private static void noDayLeft() {
    Supplier<ShameAngles> made = () -> {
      ShameAngles x = Edge.told("ship 5;man 0 9;reader 1;");
      for (int day = 0; day < 999; day++) x.noon(0, 0);
      return x;
    };
    // no row of 512 calls comes so far; a noon is refused there all the same
    Edge.leaves("noon(1, 0) on DAY 999", made, x -> x.noon(1, 0), -3, Edge.AS_NO);
    Edge.leaves("noon(2, 0) on DAY 999", made, x -> x.noon(2, 0), -2, Edge.AS_BAD);
    Edge.leaves("noon(0, 1) on DAY 999", made, x -> x.noon(0, 1), -2, Edge.AS_BAD);
    ShameAngles x = made.get();
    x.undo();
    Edge.due("the DAY ahead of the last", x.count(2), 998);
    Edge.due("noon on DAY 998", x.noon(0, 0), Math.floorMod(5 * 999, 100));
    Edge.due("the DAY then", x.count(2), 999);
  }

  private static ShameAngles fullText() {
    ShameAngles x = Edge.told("ship 5;man 0 9;reader 1;deed 0 1;");
    for (int k = 0; k < 150; k++) x.type("ship 5;".charAt(k % 7));
    return x;
  }

  private static ShameAngles fullRows() {
    ShameAngles x = Edge.rich(2, 2);
    for (int k = 0; k < 3; k++) x.forget(k);
    for (int k = 0; k < 6; k++) {
      Edge.due("seen", x.seen(k % 2, k, k), k + 1);
      Edge.due("note", x.note(k % 2, k, k, k), k + 1);
      Edge.due("mark", x.mark(k % 2, k, k, k), k + 1);
    }
    return x;
  }

  private static void badAheadOfFull() {
    Supplier<ShameAngles> rows = EdgesRefused::fullRows;
    for (int n : new int[] {-1, 2, MIN, MAX}) {
      Edge.leaves("seen of " + n, rows, x -> x.seen(n, 0, 0), -2, Edge.AS_BAD);
      Edge.leaves("note of " + n, rows, x -> x.note(n, 0, 0, 0), -2, Edge.AS_BAD);
      Edge.leaves("mark of " + n, rows, x -> x.mark(n, 0, 0, 0), -2, Edge.AS_BAD);
    }
    for (int n : new int[] {-1, 100}) {
      Edge.leaves("seen on DAY " + n, rows, x -> x.seen(0, n, 0), -2, Edge.AS_BAD);
      Edge.leaves("note on DAY " + n, rows, x -> x.note(0, 0, n, 0), -2, Edge.AS_BAD);
      Edge.leaves("mark on DAY " + n, rows, x -> x.mark(0, 0, n, 0), -2, Edge.AS_BAD);
      Edge.leaves("mark that READ " + n, rows, x -> x.mark(0, 0, 0, n), -2, Edge.AS_BAD);
    }
    for (int n : new int[] {-1, 91}) {
      Edge.leaves("seen at " + n, rows, x -> x.seen(0, 0, n), -2, Edge.AS_BAD);
      Edge.leaves("note at " + n, rows, x -> x.note(0, 0, 0, n), -2, Edge.AS_BAD);
      Edge.leaves("note of a SHAME of " + n, rows, x -> x.note(0, n, 0, 0), -2, Edge.AS_BAD);
      Edge.leaves("mark of " + n, rows, x -> x.mark(0, n, 0, 0), -2, Edge.AS_BAD);
    }
    for (int n : new int[] {-1, 128, MIN, MAX}) {
      Edge.leaves("type(" + n + "), full", EdgesRefused::fullText, x -> x.type(n), -2, Edge.AS_BAD);
    }
  }

  private static void full() {
    for (int n : new int[] {0, 1}) {
      Edge.leaves("a 7th SEEN", EdgesRefused::fullRows, x -> x.seen(n, 99 * n, 90 * n), -4, Edge.AS_FULL);
      Edge.leaves("a 7th NOTE", EdgesRefused::fullRows, x -> x.note(n, 90 * n, 99 * n, 90 * n), -4, Edge.AS_FULL);
      Edge.leaves("a 7th MARK", EdgesRefused::fullRows, x -> x.mark(n, 90 * n, 99 * n, 99 * n), -4, Edge.AS_FULL);
      Edge.leaves("a 151st byte", EdgesRefused::fullText, x -> x.type(127 * n), -4, Edge.AS_FULL);
    }
  }

  private static void badAheadOfOthers() {
    Supplier<ShameAngles> true0 = () -> Edge.told("ship 5;man 0 9;reader 0;");
    Edge.due("cape(1, 0, -1): none", true0.get().cape(1, 0, -1), -6);
    Edge.leaves("cape(1, 0, -2): none, i below -1", true0, x -> x.cape(1, 0, -2), -10, Edge.AS_BAD);
    Edge.leaves("cape(1, 1, 9): none, no such READER", true0, x -> x.cape(1, 1, 9), -10, Edge.AS_BAD);
    Edge.leaves("cape(100, 0, 9): no such PLACE, not so many", true0, x -> x.cape(100, 0, 9), -10, Edge.AS_BAD);
    Edge.leaves("officers(1, 9): no such READER, not so many", true0, x -> x.officers(1, 9), -10, Edge.AS_BAD);
    Supplier<ShameAngles> unread = () -> Edge.told("ship 5;man 0 9;");
    Edge.due("watch(0): no way", unread.get().watch(0), -6);
    Edge.leaves("watch(1): no way, no such MAN", unread, x -> x.watch(1), -10, Edge.AS_BAD);
    Edge.leaves("watch(-2): no way, below -1", unread, x -> x.watch(-2), -10, Edge.AS_BAD);
    Edge.leaves("from(2), none kept", ShameAngles::new, x -> x.from(2), -2, Edge.AS_BAD);
  }

  private static void notRefused() {
    Supplier<ShameAngles> made = () -> Edge.told("ship 5;man 0 9;reader 0;");
    Edge.leaves("cape: none", made, x -> x.cape(1, 0, 0), -6, Edge.NOTHING);
    Edge.leaves("cape: not so many", made, x -> x.cape(5, 0, 1), -5, Edge.NOTHING);
    Edge.leaves("officers: not so many", made, x -> x.officers(0, 1), -5, Edge.NOTHING);
    Edge.leaves("when: none", () -> Edge.told("ship 5;man 2 0;"), x -> x.when(0, 90), -1, Edge.NOTHING);
    Edge.leaves("fewest: none", made, x -> x.fewest(1, 0), -1, Edge.NOTHING);
    Edge.leaves("watch: no way", () -> Edge.told("ship 5;man 0 9;"), x -> x.watch(0), -6, Edge.NOTHING);
    Supplier<ShameAngles> odd = () -> {
      ShameAngles x = made.get();
      x.seen(0, 0, 0);
      x.seen(0, 0, 1);
      x.note(0, 0, 0, 77);
      x.mark(0, 0, 0, 77);
      return x;
    };
    Edge.leaves("began: none", odd, x -> x.began(0, 1), -1, Edge.NOTHING);
    Edge.leaves("look: none", odd, x -> x.look(0), -1, Edge.NOTHING);
    Edge.leaves("ask: none", odd, x -> x.ask(0), -1, Edge.NOTHING);
    Edge.leaves("off at -2", () -> Edge.told("ship 5;man 0 2;reader 4;noon 0 0;"), x -> x.off(), -2, Edge.NOTHING);
    Edge.leaves("error of -2", () -> Edge.told("ship 5;man 0 2;reader 4;"), x -> x.error(1, 0), -2, Edge.NOTHING);
    Edge.leaves("then of -2", () -> Edge.told("ship 5;man 0 2;reader 4;"), x -> x.then(1, 0, 1), -2, Edge.NOTHING);
  }

  private static void statusCounts() {
    ShameAngles x = new ShameAngles();
    for (int k = 1; k <= 5; k++) {
      x.error(0, 0);
      Edge.due("BAD, told as -1000", x.status(0), 6 * k - 5);
      x.then(0, 0, 0);
      Edge.due("BAD, told as -1000", x.status(0), 6 * k - 4);
      x.cape(0, 0, -1);
      Edge.due("BAD, told as -10", x.status(0), 6 * k - 3);
      x.watch(0);
      Edge.due("BAD, told as -10", x.status(0), 6 * k - 2);
      x.officers(0, -1);
      Edge.due("BAD, told as -10", x.status(0), 6 * k - 1);
      x.status(3);
      Edge.due("BAD, told as -1", x.status(0), 6 * k);
      x.undo();
      Edge.due("NO", x.status(1), k);
      Edge.due("FULL", x.status(2), 0);
    }
    for (int k = 1; k <= 10; k++) {
      x.man(0, 0);
      Edge.due("FULL", x.status(2), Math.max(0, k - 6));
    }
    Edge.due("BAD stays", x.status(0), 30);
    Edge.due("NO stays", x.status(1), 5);
  }

  private static void refusedReadsAreNotCounted() {
    for (String text : new String[] {"", "ship", "ship 10;", "ship 5;man 0 0", "end"}) {
      Supplier<ShameAngles> made = () -> Edge.type(Edge.rich(3, 2), text);
      long fault = made.get().read();
      Edge.due("a FAULT of \"" + text + "\"", fault <= -10 ? 1 : 0, 1);
      Edge.leaves("read of \"" + text + "\"", made, ShameAngles::read, fault, Edge.NOTHING);
    }
  }

  public static void main(String[] args) {
    int[][] many = {{0, 0}, {1, 0}, {0, 1}, {1, 1}, {3, 2}, {5, 3}, {6, 2}, {6, 3}};
    for (int[] n : many) {
      for (Row row : rows(n[0], n[1])) {
        String there = row.name + ", " + n[0] + " MEN and " + n[1] + " READERS there";
        Edge.test("BAD: a number is not as told: " + there, () -> bounds(row, n[0], n[1]));
        Edge.test("Refused, changing nothing but STATUS, once: " + there, () -> twoAtOnce(row, n[0], n[1]));
      }
    }
    Edge.test("noon: BAD; NO: DAY 999", EdgesRefused::noDayLeft);
    Edge.test("the first of: BAD .. FULL", EdgesRefused::badAheadOfFull);
    Edge.test("seen, note, mark: FULL: 6; THE TEXT: 150 bytes at most", EdgesRefused::full);
    Edge.test("BAD: -10: i below -1, too; no such MAN, too", EdgesRefused::badAheadOfOthers);
    Edge.test("none, not so many, no way are not BAD", EdgesRefused::notRefused);
    Edge.test("where others are told they count as these", EdgesRefused::statusCounts);
    Edge.test("-10 less the FAULT: all stays", EdgesRefused::refusedReadsAreNotCounted);
    Edge.end();
  }
}
