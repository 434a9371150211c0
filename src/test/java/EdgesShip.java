import java.util.function.Supplier;

/** Edges of the terms, of "a ship" without its TEXT, and of "noons" (promises 1 to 5, 9 to 13). */
public final class EdgesShip {
  private static void due(String call, long got, long want) {
    Edge.due(call, got, want);
  }

  private static ShameAngles told(String text) {
    return Edge.told(text);
  }

  // ---- terms, promises 1 to 5

  private static void menAsTheyCome() {
    ShameAngles x = new ShameAngles();
    for (int i = 0; i <= 5; i++) {
      due("count(0)", x.count(0), i);
      due("of(" + i + ", 0), not there yet", x.of(i, 0), -2);
      due("man", x.man(5 - i, 18 * i), i);
    }
    for (int i = 0; i <= 5; i++) {
      due("KIND of " + i, x.of(i, 0), 5 - i);
      due("SHAME of " + i, x.of(i, 1), 18 * i);
    }
    due("count(0)", x.count(0), 6);
    due("count(3)", x.count(3), 18 * 15);
  }

  private static void seventhMan() {
    Supplier<ShameAngles> six = () -> Edge.rich(6, 3);
    Edge.leaves("man(0, 0)", six, x -> x.man(0, 0), -4, Edge.AS_FULL);
    Edge.leaves("man(5, 90)", six, x -> x.man(5, 90), -4, Edge.AS_FULL);
    Edge.leaves("man(6, 0)", six, x -> x.man(6, 0), -2, Edge.AS_BAD);
    Edge.leaves("man(0, 91)", six, x -> x.man(0, 91), -2, Edge.AS_BAD);
    due("the sixth is taken", Edge.rich(5, 3).man(0, 0), 5);
  }

  private static void shameAtItsEnds() {
    ShameAngles x = new ShameAngles();
    due("man(0, 0)", x.man(0, 0), 0);
    due("man(0, 90)", x.man(0, 90), 1);
    due("of(0, 1)", x.of(0, 1), 0);
    due("of(1, 1)", x.of(1, 1), 90);
    due("man(0, -1)", x.man(0, -1), -2);
    due("man(0, 91)", x.man(0, 91), -2);
    due("count(0)", x.count(0), 2);
  }

  private static void readersAsTheyCome() {
    ShameAngles x = new ShameAngles();
    x.man(0, 37);
    int[] kinds = {5, 0, 4};
    for (int r = 0; r <= 2; r++) {
      due("count(1)", x.count(1), r);
      due("reads(0, " + r + "), not there yet", x.reads(0, r), -2);
      due("reader", x.reader(kinds[r]), r);
    }
    due("count(1)", x.count(1), 3);
    due("TIRED", x.reads(0, 0), 34);
    due("TRUE", x.reads(0, 1), 37);
    due("SILVERED", x.reads(0, 2), 30);
  }

  private static void fourthReader() {
    Supplier<ShameAngles> three = () -> Edge.rich(2, 3);
    Edge.leaves("reader(0)", three, x -> x.reader(0), -4, Edge.AS_FULL);
    Edge.leaves("reader(5)", three, x -> x.reader(5), -4, Edge.AS_FULL);
    Edge.leaves("reader(6)", three, x -> x.reader(6), -2, Edge.AS_BAD);
    Edge.leaves("reader(-1)", three, x -> x.reader(-1), -2, Edge.AS_BAD);
    due("the third is taken", Edge.rich(2, 2).reader(0), 2);
  }

  private static void daysFromNought() {
    ShameAngles x = new ShameAngles();
    due("the DAY at first", x.count(2), 0);
    x.reader(0);
    for (int d = 1; d <= 240; d++) {
      x.noon(0, 0);
      due("the DAY", x.count(2), d);
    }
  }

  private static void fogOfSixDays() {
    for (int f = 0; f <= 5; f++) {
      ShameAngles x = new ShameAngles();
      x.reader(0);
      due("fog(" + f + ", 1)", x.fog(f, 1), 0);
      for (int d = 0; d <= 80; d++) {
        due("FOG of day " + f + " alone: on DAY " + d, x.now(3), d % 6 == f ? 1 : 0);
        x.noon(0, 0);
      }
    }
    due("fog(6, 1)", new ShameAngles().fog(6, 1), -2);
    due("fog(-1, 1)", new ShameAngles().fog(-1, 1), -2);
  }

  private static void fogIsOneOrNot() {
    ShameAngles x = new ShameAngles();
    for (int d = 0; d <= 5; d++) {
      due("FOG at first", x.fog(d, 0), 0);
      due("told 0, then 1", x.fog(d, 1), 0);
      due("told 1, then 1", x.fog(d, 1), 1);
      due("told 1, then 0", x.fog(d, 0), 1);
      due("told 0, then 0", x.fog(d, 0), 0);
      due("fog(d, 2)", x.fog(d, 2), -2);
      due("fog(d, -1)", x.fog(d, -1), -2);
      due("as it was", x.fog(d, 0), 0);
    }
  }

  private static void placeGoesRound() {
    ShameAngles x = told("ship 1;reader 0;");
    for (int k = 1; k <= 99; k++) due("PLACE", x.noon(0, 0), k);
    due("PLACE behind 99", x.noon(0, 0), 0);
    due("now(0)", x.now(0), 0);
    due("PLACE behind 0", x.noon(0, 0), 1);
    x = told("ship 9;reader 0;");
    for (int k = 1; k <= 11; k++) due("PLACE", x.noon(0, 0), 9 * k);
    due("9 behind 99", x.noon(0, 0), 8);
  }

  private static void logGoesRound() {
    ShameAngles x = told("ship 1;reader 0;");
    for (int k = 1; k <= 99; k++) {
      x.noon(0, 0);
      due("LOG", x.now(1), k);
    }
    x.noon(0, 0);
    due("LOG behind 99", x.now(1), 0);
    x = told("ship 9;reader 0;");
    for (int k = 1; k <= 12; k++) x.noon(0, 0);
    due("9 behind 99", x.now(1), 8);
  }

  private static void placeGoesBack() {
    ShameAngles x = told("ship 0;man 0 1;reader 4;");
    due("1 back of 0", x.noon(1, 0), 99);
    due("LOG stays", x.now(1), 0);
    x = told("ship 0;man 0 3;reader 2;");
    due("3 back of 0", x.noon(1, 0), 97);
    x = told("ship 3;man 0 3;reader 2;");
    due("3 on and 3 back: just 0", x.noon(1, 0), 0);
    x = told("ship 2;man 0 3;reader 2;");
    due("2 on and 3 back: 99", x.noon(1, 0), 99);
    due("LOG", x.now(1), 2);
    x = told("ship 0;man 0 9;man 0 19;man 0 29;man 0 39;man 0 49;man 0 59;reader 4;");
    due("54 back of 0, the most", x.noon(63, 0), 46);
  }

  private static void placeGoesOnTheMost() {
    ShameAngles x = told("ship 9;man 0 90;man 0 90;man 0 90;man 0 90;man 0 90;man 0 90;reader 3;reader 0;");
    for (int k = 0; k < 7; k++) x.noon(0, 1);
    due("PLACE", x.now(0), 63);
    due("39 on, the most: going round", x.noon(63, 0), 2);
    due("LOG", x.now(1), 72);
  }

  private static void courseAtItsEnds() {
    ShameAngles x = new ShameAngles();
    x.reader(0);
    due("COURSE at first", x.now(2), 5);
    due("PLACE", x.noon(0, 0), 5);
    due("LOG", x.now(1), 5);
    for (int course = 0; course <= 9; course++) {
      x = new ShameAngles();
      due("ship(" + course + ")", x.ship(course), 0);
      due("COURSE", x.now(2), course);
      x.reader(0);
      due("PLACE", x.noon(0, 0), course);
      due("LOG", x.now(1), course);
    }
    due("ship(10)", x.ship(10), -2);
    due("ship(-1)", x.ship(-1), -2);
    due("COURSE stays", x.now(2), 9);
  }

  private static void atFirst() {
    ShameAngles x = new ShameAngles();
    for (int k = 0; k <= 8; k++) due("count(" + k + ")", x.count(k), 0);
    int[] now = {0, 0, 5, 0};
    for (int k = 0; k <= 3; k++) due("now(" + k + ")", x.now(k), now[k]);
    due("part(0)", x.part(0), 0);
    due("part(1)", x.part(1), 1);
    for (int k = 0; k <= 2; k++) due("status(" + k + ")", x.status(k), 0);
    due("off", x.off(), 0);
    due("clear", x.clear(), 0);
    due("watch(-1)", x.watch(-1), 1);
    due("voyages(0, 60)", x.voyages(0, 60), 0);
    for (int k = 0; k <= 2; k++) due("forget(" + k + ")", x.forget(k), 0);
    due("read", x.read(), -10);
    due("undo", x.undo(), -3);
    due("from(0)", x.from(0), -3);
    due("from(1)", x.from(1), -3);
    due("BAD", x.status(0), 0);
    due("NO", x.status(1), 3);
  }

  private static void constants() {
    due("NONE", ShameAngles.NONE, -1);
    due("BAD", ShameAngles.BAD, -2);
    due("NO", ShameAngles.NO, -3);
    due("FULL", ShameAngles.FULL, -4);
  }

  private static void shipAllAsAtFirst() {
    for (int men = 0; men <= 6; men++) {
      ShameAngles x = Edge.rich(men, men / 2);
      due("ship(9), how many MEN there were", x.ship(9), men);
      for (int k = 0; k <= 7; k++) due("count(" + k + ")", x.count(k), 0);
      int[] now = {0, 0, 9, 0};
      for (int k = 0; k <= 3; k++) due("now(" + k + ")", x.now(k), now[k]);
      due("undo", x.undo(), -3);
      for (int d = 0; d <= 5; d++) due("FOG of " + d, x.fog(d, 0), 0);
      due("man", x.man(0, 7), 0);
      due("reader", x.reader(0), 0);
      due("none SEEN of him", x.began(0, 0), 91);
      due("no NOTES of him", x.is(0), 63);
      due("no MARKS of it", x.kinds(0), 63);
    }
  }

  private static void shipLeavesOthers() {
    ShameAngles x = Edge.rich(6, 3);
    x.ship(0);
    due("THE TEXT", x.count(8), 50);
    due("THE FRACTION above", x.part(0), Edge.rich(6, 3).part(0));
    due("THE FRACTION below", x.part(1), Edge.rich(6, 3).part(1));
    for (int k = 0; k <= 2; k++) due("STATUS", x.status(k), Edge.rich(6, 3).status(k));
    due("IMAGE 0", x.from(0), 1);
    due("its MEN", x.count(0), 6);
    due("what may be undone of it", x.count(7), 2);
    due("IMAGE 1, none", x.from(1), -3);
    due("read", x.read(), 6);
    due("COURSE read", x.now(2), 3);
    due("ship(0) behind it", x.ship(0), 1);
  }

  // ---- KINDS of MEN

  private static void stands(int kind, int shame, int day, int angle) {
    ShameAngles x = Edge.aged(told("ship 0;reader 0;"), day);
    x.man(kind, shame);
    due("ANGLE of KIND " + kind + ", a SHAME of " + shame + ", on DAY " + day, x.angle(0), angle);
    due("and READ so by a TRUE one", x.reads(0, 0), angle);
    x.note(0, shame, day, angle);
    due("and so by a NOTE", x.is(0) >> kind & 1, 1);
  }

  private static void plain() {
    for (int m : new int[] {0, 1, 45, 89, 90}) {
      stands(0, m, 0, m);
      stands(0, m, 7, m);
    }
  }

  private static void liar() {
    int[][] rows = {{0, 5}, {1, 6}, {84, 89}, {85, 90}, {86, 90}, {90, 90}};
    for (int[] n : rows) {
      stands(1, n[0], 0, n[1]);
      stands(1, n[0], 1, n[1]);
    }
  }

  private static void saint() {
    int[][] rows = {{0, 0}, {9, 0}, {10, 0}, {11, 1}, {12, 2}, {89, 79}, {90, 80}};
    for (int[] n : rows) stands(2, n[0], 3, n[1]);
  }

  private static void cook() {
    for (int day : new int[] {0, 7, 14, 21, 49, 70, 77, 98}) {
      stands(3, 0, day, 90);
      stands(3, 90, day, 90);
    }
    for (int day : new int[] {1, 2, 3, 4, 5, 6, 8, 13, 15, 20, 27, 71, 97, 99}) {
      stands(3, 0, day, 5);
      stands(3, 84, day, 89);
      stands(3, 85, day, 90);
      stands(3, 86, day, 90);
      stands(3, 90, day, 90);
    }
  }

  private static void bosun() {
    int[][] rows = {{0, 0}, {1, 2}, {2, 3}, {3, 5}, {4, 6}, {57, 86}, {58, 87}, {59, 89}, {60, 90}, {61, 90}, {90, 90}};
    for (int[] n : rows) stands(4, n[0], 2, n[1]);
  }

  private static void admiral() {
    int[][] rows = {{0, 0}, {9, 0}, {10, 0}, {12, 0}, {13, 1}, {15, 1}, {16, 2}, {87, 25}, {88, 26}, {90, 26}};
    for (int[] n : rows) stands(5, n[0], 4, n[1]);
  }

  // ---- KINDS of READERS

  private static void sees(int kind, int angle, int day, int reading) {
    ShameAngles x = Edge.aged(told("ship 0;reader 0;"), day);
    x.man(0, angle);
    x.reader(kind);
    due("KIND " + kind + " READS of " + angle + " on DAY " + day, x.reads(0, 1), reading);
    due("and so its ERROR", x.error(1, 1), reading - angle);
    x.mark(1, angle, day, reading);
    due("and so by a MARK", x.kinds(1) >> kind & 1, 1);
  }

  private static void trueOne() {
    for (int a : new int[] {0, 1, 90}) {
      sees(0, a, 0, a);
      sees(0, a, 1, a);
    }
  }

  private static void squint() {
    for (int a : new int[] {0, 1, 88, 89, 90}) sees(1, a, 1, a + 2);
  }

  private static void index() {
    int[][] rows = {{0, 0}, {1, 0}, {2, 0}, {3, 0}, {4, 1}, {5, 2}, {90, 87}};
    for (int[] n : rows) {
      sees(2, n[0], 0, n[1]);
      sees(2, n[0], 1, n[1]);
    }
  }

  private static void dip() {
    int[][] rows = {{0, 2}, {29, 31}, {30, 33}, {31, 34}, {59, 62}, {60, 64}, {61, 65}, {89, 93}, {90, 95}};
    for (int[] n : rows) sees(3, n[0], 1, n[1]);
  }

  private static void silvered() {
    int[][] rows = {{0, 0}, {1, 0}, {9, 0}, {10, 10}, {11, 10}, {19, 10}, {20, 20}, {89, 80}, {90, 90}};
    for (int[] n : rows) sees(4, n[0], 1, n[1]);
  }

  private static void tired() {
    int[][] even = {{0, 0}, {3, 0}, {4, 1}, {5, 2}, {90, 87}};
    int[][] odd = {{0, 0}, {3, 0}, {4, 0}, {5, 1}, {6, 2}, {90, 86}};
    for (int day : new int[] {0, 2, 98}) for (int[] n : even) sees(5, n[0], day, n[1]);
    for (int day : new int[] {1, 3, 99}) for (int[] n : odd) sees(5, n[0], day, n[1]);
  }

  // ---- NOON

  private static void measuredOneLess() {
    ShameAngles x = told("ship 5;man 0 0;man 0 1;man 0 2;man 0 90;reader 0;");
    due("noon(15, 0)", x.noon(15, 0), 5);
    int[] want = {0, 0, 1, 89};
    for (int i = 0; i < 4; i++) due("SHAME of " + i, x.of(i, 1), want[i]);
    x.noon(15, 0);
    due("SHAME of 0, at its least still", x.of(0, 1), 0);
    due("SHAME of 1, at its least still", x.of(1, 1), 0);
  }

  private static void othersThreeMore() {
    ShameAngles x = told("ship 5;man 0 0;man 0 86;man 0 87;man 0 88;man 0 89;man 0 90;reader 0;");
    due("noon(0, 0)", x.noon(0, 0), 5);
    int[] want = {3, 89, 90, 90, 90, 90};
    for (int i = 0; i < 6; i++) due("SHAME of " + i, x.of(i, 1), want[i]);
    x.noon(32, 0);
    due("the measured one", x.of(5, 1), 89);
    due("another one", x.of(0, 1), 6);
  }

  private static void eachBitIsAMan() {
    for (int i = 0; i < 6; i++) {
      ShameAngles x = told("ship 0;man 0 1;man 0 2;man 0 3;man 0 4;man 0 5;man 0 6;reader 4;");
      due("noon of MAN " + i + " alone", x.noon(1 << i, 0), 99 - i);
      for (int j = 0; j < 6; j++) due("SHAME of " + j, x.of(j, 1), j == i ? j : j + 4);
    }
    ShameAngles x = told("ship 0;man 0 1;man 0 2;man 0 3;man 0 4;man 0 5;man 0 6;reader 4;");
    due("noon of all", x.noon(63, 0), 79);
    due("noon of nobody", x.noon(0, 0), 79);
  }

  private static void noonInFog() {
    ShameAngles x = told("ship 4;fog 0 1;man 0 0;man 0 90;man 0 44;reader 3;");
    due("clear", x.noon(0, 0), 4);
    due("in FOG: no ERROR", x.noon(7, 0), 8);
    int[] want = {3, 90, 47};
    for (int i = 0; i < 3; i++) due("SHAMES stay", x.of(i, 1), want[i]);
    due("LOG goes on", x.now(1), 8);
    due("the DAY is one more", x.count(2), 2);
    due("clear again", x.noon(4, 0), 15);
  }

  private static void fogOfTheNoonsOwnDay() {
    ShameAngles x = told("ship 0;fog 1 0;man 0 10;reader 1;");
    due("FOG today, none tomorrow", x.noon(1, 0), 0);
    due("SHAME", x.of(0, 1), 10);
    due("FOG yesterday, none today", x.noon(1, 0), 2);
    due("SHAME", x.of(0, 1), 9);
  }

  private static void errorAheadOfShame() {
    // 10 is READ as 10 by a SILVERED one; 9, then, as 0
    ShameAngles x = told("ship 0;man 0 10;reader 4;");
    due("the ERROR of 10", x.noon(1, 0), 0);
    due("the ERROR of 9", x.noon(1, 0), 91);
    // on DAY 0 a TIRED one READS 3 less, on DAY 1 4 less
    x = told("ship 0;man 0 50;reader 5;");
    due("DAY 0", x.noon(1, 0), 97);
    due("DAY 1", x.noon(1, 0), 93);
    // a COOK is at 90 on DAY 0 alone
    x = told("ship 0;man 3 4;reader 4;");
    due("a COOK on DAY 0", x.noon(1, 0), 0);
    due("a COOK on DAY 1, of 3: at 8", x.noon(1, 0), 92);
  }

  private static void eachReader() {
    for (int r = 0; r < 3; r++) {
      ShameAngles x = told("ship 0;man 0 50;reader 0;reader 1;reader 3;");
      due("noon by READER " + r, x.noon(1, r), new int[] {0, 2, 3}[r]);
    }
  }

  // ---- DEED, UNDO

  private static void deedNinetyAtMost() {
    int[][] rows = {{0, 1, 1}, {0, 90, 90}, {1, 90, 90}, {0, 89, 89}, {89, 1, 90}, {88, 1, 89}, {89, 2, 90}, {90, 1, 90},
        {90, 90, 90}, {45, 45, 90}, {45, 46, 90}, {45, 44, 89}};
    for (int[] n : rows) {
      ShameAngles x = told("ship 5;man 0 7;man 0 " + n[0] + ";");
      due("deed(1, " + n[1] + ") of " + n[0], x.deed(1, n[1]), n[2]);
      due("of(1, 1)", x.of(1, 1), n[2]);
      due("another one's", x.of(0, 1), 7);
      due("PLACE", x.now(0), 0);
      due("LOG", x.now(1), 0);
      due("the DAY", x.count(2), 0);
      due("that may be undone", x.count(7), 1);
    }
    Supplier<ShameAngles> one = () -> Edge.rich(1, 1);
    Edge.leaves("deed(0, 0)", one, x -> x.deed(0, 0), -2, Edge.AS_BAD);
    Edge.leaves("deed(0, 91)", one, x -> x.deed(0, 91), -2, Edge.AS_BAD);
    Edge.leaves("deed(1, 1)", one, x -> x.deed(1, 1), -2, Edge.AS_BAD);
    Edge.leaves("deed(-1, 1)", one, x -> x.deed(-1, 1), -2, Edge.AS_BAD);
  }

  private static void undoAsAhead() {
    ShameAngles x = told("ship 7;fog 0 0 1;man 0 0;man 0 89;reader 1;");
    long[] was = new long[5];
    int[] places = {0, 9, 18, 25, 25};
    int[] logs = {0, 7, 14, 21, 21};
    int[] days = {0, 1, 2, 3, 3};
    int[] first = {0, 0, 3, 3, 43};
    int[] second = {89, 90, 89, 89, 89};
    for (int k = 0; k <= 4; k++) {
      due("PLACE ahead of the " + k + "th", x.now(0), places[k]);
      due("LOG", x.now(1), logs[k]);
      due("the DAY", x.count(2), days[k]);
      due("SHAME of 0", x.of(0, 1), first[k]);
      due("SHAME of 1", x.of(1, 1), second[k]);
      was[k] = x.digest();
      if (k == 0) x.noon(1, 0);
      if (k == 1) x.noon(2, 0);
      if (k == 2) x.noon(3, 0);
      if (k == 3) x.deed(0, 40);
    }
    for (int k = 3; k >= 0; k--) {
      due("undo of the " + k + "th", x.undo(), days[k]);
      due("all as ahead of it", x.digest(), was[k]);
    }
    due("undo of no more", x.undo(), -3);
  }

  private static void undoEightAtMost() {
    for (int steps = 1; steps <= 20; steps++) {
      ShameAngles x = told("ship 1;man 0 0;reader 0;");
      for (int k = 1; k <= steps; k++) {
        due("noon", x.noon(0, 0), k);
        due("that may be undone", x.count(7), Math.min(k, 8));
      }
      int most = Math.min(steps, 8);
      for (int k = 1; k <= most; k++) {
        due("undo", x.undo(), steps - k);
        due("PLACE", x.now(0), steps - k);
        due("LOG", x.now(1), steps - k);
        due("SHAME", x.of(0, 1), 3 * (steps - k));
        due("that may be undone", x.count(7), most - k);
      }
      due("one more", x.undo(), -3);
      due("the DAY stays", x.count(2), steps - most);
    }
  }

  private static void undoOfDeedsEight() {
    ShameAngles x = told("ship 1;man 0 0;man 0 50;");
    for (int k = 1; k <= 9; k++) due("deed", x.deed(0, 2), 2 * k);
    for (int k = 8; k >= 1; k--) {
      due("undo", x.undo(), 0);
      due("SHAME", x.of(0, 1), 2 * k);
    }
    Edge.leaves("a ninth", () -> told("ship 1;man 0 2;man 0 50;"), ShameAngles::undo, -3, Edge.AS_NO);
    due("a ninth", x.undo(), -3);
    due("SHAME stays", x.of(0, 1), 2);
    due("another one's stays", x.of(1, 1), 50);
  }

  private static void undoThenOn() {
    ShameAngles x = told("ship 5;man 0 10;reader 0;");
    x.noon(0, 0);
    x.noon(0, 0);
    due("undo", x.undo(), 1);
    due("deed", x.deed(0, 7), 20);
    due("undo of the deed", x.undo(), 1);
    due("SHAME", x.of(0, 1), 13);
    due("undo of the first noon", x.undo(), 0);
    due("SHAME", x.of(0, 1), 10);
    due("no more", x.undo(), -3);
  }

  private static ShameAngles withSteps() {
    ShameAngles x = told("ship 5;man 0 10;reader 0;");
    x.noon(0, 0);
    x.deed(0, 1);
    due("two steps", x.count(7), 2);
    return x;
  }

  private static void none(String behind, ShameAngles x) {
    due("that may be undone behind " + behind, x.count(7), 0);
    due("undo behind " + behind, x.undo(), -3);
  }

  private static void noneBehindThese() {
    ShameAngles x = withSteps();
    x.ship(5);
    none("a COURSE", x);
    for (int is = 0; is <= 1; is++) {
      x = withSteps();
      x.fog(4, is);
      none("a FOG told", x);
      due("the DAY stays", x.count(2), 1);
    }
    x = withSteps();
    x.man(0, 0);
    none("a MAN", x);
    x = withSteps();
    x.reader(0);
    none("a READER", x);
    x = Edge.type(withSteps(), "ship 5;reader 0;noon 0;");
    x.read();
    none("a SHIP that is read", x);
  }

  private static void refusedOnesLeaveIt() {
    ShameAngles x = told("ship 5;man 0 1;man 0 1;man 0 1;man 0 1;man 0 1;man 0 1;reader 0;reader 0;reader 0;");
    x.noon(0, 0);
    x.deed(5, 1);
    x.ship(10);
    x.fog(6, 0);
    x.fog(0, 2);
    x.man(0, 0);
    x.man(6, 0);
    x.reader(0);
    x.reader(6);
    x.read();
    x.noon(64, 0);
    x.deed(6, 1);
    due("that may be undone", x.count(7), 2);
    due("undo", x.undo(), 1);
    due("undo", x.undo(), 0);
  }

  private static void othersLeaveIt() {
    ShameAngles x = withSteps();
    x.type('s');
    x.clear();
    x.seen(0, 1, 2);
    x.note(0, 1, 2, 3);
    x.mark(0, 1, 2, 3);
    x.slips(1, 0, 5);
    x.then(1, 0, 60);
    x.when(0, 90);
    x.cape(50, 0, -1);
    x.voyages(5, 60);
    x.forget(2);
    x.image(0);
    due("that may be undone", x.count(7), 2);
    due("undo", x.undo(), 1);
    due("undo", x.undo(), 0);
    due("SEEN stay", x.count(4), 1);
    due("NOTES stay", x.count(5), 1);
    due("MARKS stay", x.count(6), 0);
    due("no more", x.undo(), -3);
  }

  // ---- what THE SHIP is now

  private static void nowAtItsEnds() {
    ShameAngles x = told("ship 9;fog 0 1;man 0 90;man 0 90;reader 3;reader 0;noon 0 0 1;");
    int[] want = {19, 9, 9, 1};
    for (int k = 0; k <= 3; k++) due("now(" + k + ")", x.now(k), want[k]);
    Edge.leaves("now(-1)", () -> Edge.rich(2, 1), y -> y.now(-1), -2, Edge.AS_BAD);
    Edge.leaves("now(4)", () -> Edge.rich(2, 1), y -> y.now(4), -2, Edge.AS_BAD);
    x.noon(0, 1);
    due("FOG today, not yesterday's", x.now(3), 0);
  }

  private static void ofAtItsEnds() {
    ShameAngles x = told("ship 0;man 5 0;man 0 90;");
    due("KIND of 0", x.of(0, 0), 5);
    due("SHAME of 0", x.of(0, 1), 0);
    due("KIND of 1", x.of(1, 0), 0);
    due("SHAME of 1", x.of(1, 1), 90);
    due("of(2, 0)", x.of(2, 0), -2);
    due("of(-1, 0)", x.of(-1, 0), -2);
    due("of(0, 2)", x.of(0, 2), -2);
    due("of(0, -1)", x.of(0, -1), -2);
    x.deed(0, 1);
    due("SHAME as it is now", x.of(0, 1), 1);
    due("KIND stays", x.of(0, 0), 5);
  }

  private static void terms() {
    Edge.test("0 .. 5, as they come", EdgesShip::menAsTheyCome);
    Edge.test("man: FULL: 6", EdgesShip::seventhMan);
    Edge.test("a SHAME (0 .. 90)", EdgesShip::shameAtItsEnds);
    Edge.test("READERS 0 .. 2, as they come", EdgesShip::readersAsTheyCome);
    Edge.test("reader: FULL: 3", EdgesShip::fourthReader);
    Edge.test("DAYS have numbers, 0 at first", EdgesShip::daysFromNought);
    Edge.test("FOG of 6 days (DAY d has that of d by 6 left over)", EdgesShip::fogOfSixDays);
    Edge.test("1 or not (0 at first); what it was", EdgesShip::fogIsOneOrNot);
    Edge.test("PLACE 0 .. 99, going round: behind 99 comes 0", EdgesShip::placeGoesRound);
    Edge.test("LOG 0 .. 99", EdgesShip::logGoesRound);
    Edge.test("going round, back, too", EdgesShip::placeGoesBack);
    Edge.test("PLACE by COURSE and the ERROR, the most", EdgesShip::placeGoesOnTheMost);
    Edge.test("COURSE (0 .. 9 leagues a day; 5 at first)", EdgesShip::courseAtItsEnds);
    Edge.test("NONE = -1, BAD = -2, NO = -3, FULL = -4", EdgesShip::constants);
    Edge.test("As told; nobody is there", EdgesShip::atFirst);
    Edge.test("ship: all else as at first: how many MEN there were", EdgesShip::shipAllAsAtFirst);
    Edge.test("ship: but for IMAGES, THE TEXT, THE FRACTION, STATUS", EdgesShip::shipLeavesOthers);
  }

  private static void kinds() {
    Edge.test("0 PLAIN: m", EdgesShip::plain);
    Edge.test("1 LIAR: 5 more than PLAIN, 90 at most", EdgesShip::liar);
    Edge.test("2 SAINT: 10 less than PLAIN, 0 at least", EdgesShip::saint);
    Edge.test("3 COOK: as LIAR, but 90 on DAYS that 7 divides", EdgesShip::cook);
    Edge.test("4 BOSUN: PLAIN and half (cut up) of it, 90 at most", EdgesShip::bosun);
    Edge.test("5 ADMIRAL: a third (cut) of SAINT", EdgesShip::admiral);
    Edge.test("0 TRUE: a", EdgesShip::trueOne);
    Edge.test("1 SQUINT: TRUE and 2", EdgesShip::squint);
    Edge.test("2 INDEX: TRUE less 3 (0 at least)", EdgesShip::index);
    Edge.test("3 DIP: SQUINT, and 1 more for each whole 30 of a", EdgesShip::dip);
    Edge.test("4 SILVERED: TRUE cut to tens", EdgesShip::silvered);
    Edge.test("5 TIRED: INDEX, 1 less on DAYS of an odd number (0 at least)", EdgesShip::tired);
  }

  private static void noons() {
    Edge.test("the SHAME of each MAN who was measured is 1 less (0 at least)", EdgesShip::measuredOneLess);
    Edge.test("of each other one 3 more (90 at most)", EdgesShip::othersThreeMore);
    Edge.test("MEN told as bits", EdgesShip::eachBitIsAMan);
    Edge.test("0 in FOG; then (not in FOG) the SHAME", EdgesShip::noonInFog);
    Edge.test("the DAY is one more, then", EdgesShip::fogOfTheNoonsOwnDay);
    Edge.test("PLACE by the ERROR; then the SHAME; the DAY", EdgesShip::errorAheadOfShame);
    Edge.test("MEN told are measured by a READER", EdgesShip::eachReader);
    Edge.test("A DEED: SHAME is n more (90 at most); n 1 .. 90", EdgesShip::deedNinetyAtMost);
    Edge.test("UNDO: SHAMES, PLACE, LOG, the DAY as ahead of the last NOON, DEED", EdgesShip::undoAsAhead);
    Edge.test("8 at most, NOONS", EdgesShip::undoEightAtMost);
    Edge.test("8 at most, DEEDS; NO: none may be", EdgesShip::undoOfDeedsEight);
    Edge.test("the last one, behind an UNDO", EdgesShip::undoThenOn);
    Edge.test("behind a COURSE, a FOG told, a MAN, a READER that comes none may be", EdgesShip::noneBehindThese);
    Edge.test("Refused, changing nothing: what may be undone stays", EdgesShip::refusedOnesLeaveIt);
    Edge.test("what may be undone stays behind all others", EdgesShip::othersLeaveIt);
    Edge.test("PLACE (0), LOG (1), COURSE (2), FOG today (3)", EdgesShip::nowAtItsEnds);
    Edge.test("Of a MAN: KIND (0), SHAME (1)", EdgesShip::ofAtItsEnds);
  }

  public static void main(String[] args) {
    terms();
    kinds();
    noons();
    Edge.end();
  }
}
