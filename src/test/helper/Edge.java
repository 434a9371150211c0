import java.util.ArrayList;
import java.util.List;
import java.util.function.Supplier;

/** What the tests of edges share: each of them is named by the sentence of the document that it tests. */
final class Edge {
  static final int MIN = Integer.MIN_VALUE, MAX = Integer.MAX_VALUE;
  /** Why a call was refused, as STATUS counts it; NOTHING: it was not. */
  static final int NOTHING = -1, AS_BAD = 0, AS_NO = 1, AS_FULL = 2;

  private static int tests = 0;
  private static int wrong = 0;
  private static String sentence = "";

  interface Call {
    long on(ShameAngles x);
  }

  private Edge() {
  }

  static void test(String told, Runnable test) {
    sentence = told;
    tests++;
    test.run();
  }

  static void due(String call, long got, long want) {
    if (got != want) {
      wrong++;
      System.out.println("\"" + sentence + "\": " + call + " answered " + got + ", due is " + want);
    }
  }

  /** Prints how many tests there were; ends with exit code 1 if an answer was not as due. */
  static void end() {
    System.out.println(tests + " tests, " + (wrong == 0 ? "all answers are as due" : wrong + " answers are not as due"));
    if (wrong != 0) System.exit(1);
  }

  static ShameAngles type(ShameAngles x, String text) {
    x.clear();
    for (int k = 0; k < text.length(); k++) {
      x.type(text.charAt(k));
    }
    return x;
  }

  /** A ship of this TEXT, which must be without FAULT; THE TEXT is empty again. */
  static ShameAngles told(String text) {
    ShameAngles x = type(new ShameAngles(), text);
    int items = x.read();
    if (items < 1) {
      due("read of " + text, items, 1);
    }
    x.clear();
    return x;
  }

  /** So many DAYS go by with FOG on each, so that SHAMES stay; then the FOG is as at first. */
  static ShameAngles aged(ShameAngles x, int days) {
    for (int d = 0; d < 6; d++) x.fog(d, 1);
    for (int d = 0; d < days; d++) x.noon(0, 0);
    for (int d = 0; d < 6; d++) x.fog(d, 0);
    return x;
  }

  private static final int[] KINDS = {0, 4, 3, 1, 5, 2}, SHAMES = {50, 9, 20, 88, 34, 61}, GLASSES = {1, 4, 5};

  /** So many MEN and READERS, and something of all that may be told, kept, undone or counted. */
  static ShameAngles rich(int men, int readers) {
    ShameAngles x = new ShameAngles();
    for (int i = 0; i < 8; i++) {
      x.man(0, 0);
    }
    x.now(4);
    x.undo();
    x.undo();
    x.undo();
    x.ship(7);
    type(x, "ship 3;fog 0 1;man 1 9;reader 1;noon 0 0;deed 0 4;");
    x.fog(2, 1);
    x.fog(5, 1);
    for (int i = 0; i < men; i++) {
      x.man(KINDS[i], SHAMES[i]);
    }
    for (int r = 0; r < readers; r++) {
      x.reader(GLASSES[r]);
    }
    if (men > 0) {
      x.seen(men - 1, 2, 3);
      x.seen(0, 3, 3);
      x.note(men - 1, 4, 5, 6);
      x.deed(0, 2);
    }
    if (readers > 0) {
      x.mark(readers - 1, 7, 8, 9);
      x.mark(0, 10, 11, 12);
      x.mark(0, 10, 13, 12);
      x.noon((1 << men) - 1, 0);
    }
    x.image(0);
    if (readers > 0) {
      x.noon(0, readers - 1);
      x.slips(0, 0, 3);
    }
    if (men > 0) {
      x.deed(men - 1, 3);
    }
    if (men > 0 && readers > 0) {
      x.noon(1, 0);
      x.slips(1, 0, 10);
    }
    return x;
  }

  private static void addBehindUndo(List<Long> all, ShameAngles x) {
    for (int k = 0; k < 10; k++) {
      all.add((long) x.undo());
      all.add(x.digest());
    }
  }

  /** All that calls can tell of it; it is another one behind this. */
  static List<Long> all(ShameAngles x) {
    List<Long> all = new ArrayList<>();
    for (int k = 0; k < 3; k++) all.add((long) x.status(k));
    all.add(x.digest());
    for (int k = 0; k < 2; k++) all.add(x.part(k));
    for (int k = 0; k < 9; k++) all.add((long) x.count(k));
    for (int k = 0; k < 4; k++) all.add((long) x.now(k));
    int men = x.count(0);
    for (int i = 0; i < men; i++) {
      for (int k = 0; k < 2; k++) all.add((long) x.of(i, k));
      all.add((long) x.angle(i));
      for (int k = 0; k < 3; k++) all.add((long) x.began(i, k));
      all.add((long) x.is(i));
    }
    int readers = x.count(1);
    for (int r = 0; r < readers; r++) all.add((long) x.kinds(r));
    addBehindUndo(all, x);
    for (int k = 0; k < 2; k++) {
      all.add((long) x.from(k));
      all.add(x.digest());
      addBehindUndo(all, x);
    }
    all.add((long) x.read());
    all.add(x.digest());
    all.add((long) x.clear());
    return all;
  }

  /** The call answers so, STATUS counts it as told (or not), and all else is as in a twin without the call. */
  static void leaves(String call, Supplier<ShameAngles> made, Call on, long want, int why) {
    ShameAngles x = made.get();
    due(call, on.on(x), want);
    leavesAll(call, x, made.get(), why);
  }

  static void leavesAll(String call, ShameAngles x, ShameAngles twin, int why) {
    List<Long> got = all(x);
    List<Long> want = all(twin);
    due(call + ", how much there is to tell behind it", got.size(), want.size());
    for (int k = 0; k < Math.min(got.size(), want.size()); k++) {
      due(call + ", what is told " + k + "th behind it", got.get(k), want.get(k) + (k == why ? 1 : 0));
    }
  }
}
