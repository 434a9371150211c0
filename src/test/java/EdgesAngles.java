/** Edges of "angles" (promises 14 to 24). */
public final class EdgesAngles {
  private static final int MAX = Edge.MAX;

  private static void due(String call, long got, long want) {
    Edge.due(call, got, want);
  }

  private static ShameAngles told(String text) {
    return Edge.told(text);
  }

  // ---- ANGLE, READS, ERROR

  private static void angleOfToday() {
    ShameAngles x = told("ship 5;fog 1 0;man 3 10;man 1 10;reader 0;");
    due("a COOK on DAY 0, in FOG", x.angle(0), 90);
    due("a LIAR in FOG", x.angle(1), 15);
    x.noon(0, 0);
    due("a COOK on DAY 1", x.angle(0), 15);
    x.noon(1, 0);
    due("a COOK on DAY 2, measured", x.angle(0), 14);
    due("a LIAR, not measured", x.angle(1), 18);
    due("angle(2)", x.angle(2), -2);
    due("angle(-1)", x.angle(-1), -2);
  }

  private static void readsFogOrNot() {
    ShameAngles x = told("ship 5;fog 1 0 0 1;man 0 50;reader 3;reader 5;");
    int[] tired = {47, 46, 50, 52};
    int[] dip = {53, 53, 56, 59};
    for (int d = 0; d <= 3; d++) {
      due("DIP on DAY " + d, x.reads(0, 0), dip[d]);
      due("TIRED on DAY " + d, x.reads(0, 1), tired[d]);
      due("FOG", x.now(3), d == 0 || d == 3 ? 1 : 0);
      x.noon(0, 0);
    }
  }

  private static void readsAtItsEnds() {
    ShameAngles x = told("ship 5;man 0 90;man 2 10;reader 3;reader 2;reader 1;");
    due("the most", x.reads(0, 0), 95);
    due("the least", x.reads(1, 1), 0);
    due("reads(2, 0)", x.reads(2, 0), -2);
    due("reads(0, 3)", x.reads(0, 3), -2);
    due("the last MAN by the last READER", x.reads(1, 2), 2);
  }

  private static void errorAtItsEnds() {
    ShameAngles x = told("ship 5;man 0 9;man 0 19;man 0 29;man 0 39;man 0 49;man 0 59;reader 4;reader 0;");
    due("the least", x.error(63, 0), -54);
    due("nobody", x.error(0, 0), 0);
    for (int i = 0; i <= 5; i++) due("MAN " + i, x.error(1 << i, 0), -9);
    due("of a TRUE one", x.error(63, 1), 0);
    due("error(64, 0)", x.error(64, 0), -1000);
    due("error(-1, 0)", x.error(-1, 0), -1000);
    due("error(0, 2)", x.error(0, 2), -1000);
    due("error(0, -1)", x.error(0, -1), -1000);
    x = told("ship 5;man 0 90;man 0 90;man 0 90;man 0 90;man 0 90;man 0 90;reader 3;");
    due("the most", x.error(63, 0), 30);
    x = told("ship 5;reader 3;");
    due("without MEN", x.error(0, 0), 0);
    due("without MEN, one told", x.error(1, 0), -1000);
  }

  private static void errorInFog() {
    for (int f = 0; f <= 5; f++) {
      ShameAngles x = told("ship 5;man 0 90;man 0 90;reader 3;");
      x.fog(f, 1);
      for (int d = 0; d <= 12; d++) {
        due("ERROR on DAY " + d + ", FOG of " + f, x.error(3, 0), d % 6 == f ? 0 : 10);
        x.noon(0, 0);
      }
    }
  }

  private static void errorOfReadingAtLeastNought() {
    ShameAngles x = told("ship 5;man 0 0;man 0 1;man 0 2;man 0 3;man 0 4;reader 2;reader 5;");
    int[] even = {0, -1, -2, -3, -3};
    int[] odd = {0, -1, -2, -3, -4};
    for (int i = 0; i <= 4; i++) {
      due("INDEX of " + i, x.error(1 << i, 0), even[i]);
      due("TIRED of " + i, x.error(1 << i, 1), even[i]);
    }
    x = told("ship 5;fog 1;man 0 0;man 0 1;man 0 2;man 0 3;man 0 4;reader 2;reader 5;noon 0;");
    for (int i = 0; i <= 4; i++) {
      due("INDEX of " + i + " on DAY 1", x.error(1 << i, 0), even[i]);
      due("TIRED of " + i + " on DAY 1", x.error(1 << i, 1), odd[i]);
    }
  }

  // ---- OFF, THEN

  private static void offGoingRound() {
    // a SHAME of 0 stays at 0 and is READ as 2; of 70 and less as 3 more, of 30 and more
    ShameAngles x = told("ship 0;man 0 0;man 0 70;reader 1;reader 3;");
    due("at first", x.off(), 0);
    for (int k = 1; k <= 15; k++) {
      due("noon", x.noon(3, 0), 4 * k);
      due("off", x.off(), 4 * k > 49 ? 4 * k - 100 : 4 * k);
    }
    ShameAngles y = told("ship 0;man 0 50;reader 3;reader 1;");
    for (int k = 1; k <= 15; k++) y.noon(1, 0);
    y.noon(1, 1);
    due("47", y.off(), 47);
    y.noon(1, 1);
    due("49, the most", y.off(), 49);
    y.undo();
    due("47 again", y.off(), 47);
    y.noon(1, 0);
    due("50 is 50 less, the least", y.off(), -50);
    y.undo();
    y.noon(1, 1);
    y.noon(1, 1);
    due("51 is 49 less", y.off(), -49);
  }

  private static void offBelowNought() {
    ShameAngles x = told("ship 0;man 0 1;reader 4;noon 0 0;");
    due("99 less 0", x.off(), -1);
    x = told("ship 7;man 0 80;man 0 80;reader 1;reader 0;" + "noon 1;".repeat(13));
    due("PLACE", x.now(0), 91);
    x.noon(3, 0);
    due("PLACE", x.now(0), 2);
    due("LOG", x.now(1), 98);
    due("2 less 98", x.off(), 4);
    x = told("ship 7;man 0 80;reader 5;reader 0;" + "noon 1;".repeat(13));
    x.noon(1, 0);
    x.noon(0, 1);
    due("PLACE", x.now(0), 1);
    due("LOG", x.now(1), 5);
    due("1 less 5", x.off(), -4);
    x = told("ship 7;man 0 80;reader 5;reader 0;" + "noon 1;".repeat(13) + "noon 0 0;noon 1;");
    due("the same, told", x.off(), -4);
    x = told("ship 8;man 0 80;reader 5;reader 0;" + "noon 1;".repeat(11) + "noon 0 0;noon 1;");
    due("PLACE of 100 less 4", x.now(0), 0);
    due("LOG of 104", x.now(1), 4);
    due("0 less 4", x.off(), -4);
  }

  private static void thenFromNoNoonsToSixty() {
    ShameAngles x = told("ship 9;man 0 0;man 0 90;reader 1;reader 2;noon 0 0;");
    for (int r = 0; r <= 1; r++) {
      due("then of no NOONS", x.then(1, r, 0), 2);
      due("then of nobody", x.then(0, r, 60), 2);
    }
    due("one of 2", x.then(1, 0, 1), 4);
    due("59 of 2", x.then(1, 0, 59), 20);
    due("60 of 2", x.then(1, 0, 60), 22);
    due("then of 61", x.then(1, 0, 61), -1000);
    due("then of -1", x.then(1, 0, -1), -1000);
    // 60 of -3 and a SHAME of 90 .. 31
    due("60 of -3", x.then(2, 1, 60), 22);
    due("23 of 2: 48", x.then(1, 0, 23), 48);
    due("24 of 2: 50 is 50 less", x.then(1, 0, 24), -50);
    due("18 of -3: 2 less 54 is 48", x.then(2, 1, 18), 48);
    due("17 of -3: 2 less 51", x.then(2, 1, 17), -49);
    due("off stays", x.off(), 2);
    due("the DAY stays", x.count(2), 1);
    due("what may be undone stays", x.count(7), 0);
  }

  private static void thenShameAndFogAndDay() {
    ShameAngles x = told("ship 0;fog 0 0 0 0 1;man 0 12;man 0 40;reader 4;");
    // 2, 1, 0, 9 less; FOG of DAY 4; 8, 7 less
    int[] want = {0, -2, -3, -3, -12, -12, -20, -27};
    for (int m = 0; m <= 7; m++) due("then(1, 0, " + m + ")", x.then(1, 0, m), want[m]);
    x = told("ship 0;man 0 90;reader 5;");
    int[] tired = {0, -3, -7, -10, -14};
    for (int m = 0; m <= 4; m++) due("TIRED on DAYS 0, 1, ..: " + m, x.then(1, 0, m), tired[m]);
    x.noon(0, 0);
    int[] odd = {0, -4, -7, -11, -14};
    for (int m = 0; m <= 4; m++) due("TIRED on DAYS 1, 2, ..: " + m, x.then(1, 0, m), odd[m]);
    // READ of 3 .. 0 by INDEX: 3, 2, 1, 0, 0 less
    x = told("ship 0;man 0 3;reader 2;");
    int[] index = {0, -3, -5, -6, -6, -6};
    for (int m = 0; m <= 5; m++) due("a SHAME of 3 .. 0: " + m, x.then(1, 0, m), index[m]);
  }

  private static void thenBeyondDay999() {
    ShameAngles x = told("ship 0;man 0 0;reader 1;");
    // no row of 512 calls comes so far; DAYS go beyond it all the same
    for (int d = 0; d < 999; d++) x.noon(0, 0);
    due("60 NOONS, 2 more each", x.then(1, 0, 60), 20);
    due("no NOON may be", x.noon(1, 0), -3);
    due("cape, NOONS beyond it", x.cape(4, 0, -1), 2);
    due("when, DAYS beyond it", x.when(0, 90), 0);
  }

  // ---- WHEN

  private static void whenTodayToSixty() {
    ShameAngles x = told("ship 5;man 0 0;man 0 1;man 0 90;man 2 0;man 5 0;");
    due("1, of 0", x.when(0, 1), 1);
    due("3, of 0", x.when(0, 3), 1);
    due("4, of 0", x.when(0, 4), 2);
    due("87, of 0", x.when(0, 87), 29);
    due("88, of 0", x.when(0, 88), 30);
    due("90, of 0", x.when(0, 90), 30);
    due("1, of 1", x.when(1, 1), 0);
    due("2, of 1", x.when(1, 2), 1);
    due("90, of 90", x.when(2, 90), 0);
    due("1, of 90: or more", x.when(2, 1), 0);
    due("a SAINT at 80", x.when(3, 80), 30);
    due("a SAINT at 81", x.when(3, 81), -1);
    due("an ADMIRAL at 25", x.when(4, 25), 29);
    due("an ADMIRAL at 26", x.when(4, 26), 30);
    due("an ADMIRAL at 27", x.when(4, 27), -1);
    due("when(0, 0)", x.when(0, 0), -2);
    due("when(0, 91)", x.when(0, 91), -2);
    due("when(5, 1)", x.when(5, 1), -2);
    // clear are DAYS 5, 11, .., 59 alone
    x = told("ship 5;fog 1 1 1 1 1 0;man 0 60;man 0 59;man 0 63;man 0 0;");
    due("ten times 3: on the 60th", x.when(0, 90), 60);
    due("on the 66th: none", x.when(1, 90), -1);
    due("nine times 3: on the 54th", x.when(2, 90), 54);
    due("30 of 0", x.when(3, 30), 60);
    due("31 of 0", x.when(3, 31), -1);
    // clear are DAYS 0, 6, .., 54, 60 alone
    x = told("ship 5;fog 0 1 1 1 1 1;man 0 60;man 0 57;man 0 59;");
    due("ten times 3: behind DAY 54", x.when(0, 90), 55);
    due("eleven times 3: behind DAY 60, on the 61st: none", x.when(1, 90), -1);
    due("ten times 3 are 89: on the 61st: none", x.when(2, 90), -1);
    x = told("ship 5;fog 1 1 1 1 1 1;man 0 10;");
    due("always FOG, 10 of 10", x.when(0, 10), 0);
    due("always FOG, 11 of 10", x.when(0, 11), -1);
  }

  private static void whenFogAndDay() {
    ShameAngles x = told("ship 5;fog 1;man 0 10;man 3 10;reader 0;");
    due("FOG today", x.when(0, 11), 2);
    due("a COOK today", x.when(1, 90), 0);
    x.noon(0, 0);
    due("clear on DAY 1", x.when(0, 11), 1);
    due("a COOK on DAY 7, from DAY 1", x.when(1, 90), 6);
    for (int d = 1; d < 5; d++) x.noon(3, 0);
    // DAY 5: 6; behind DAY 5: 9; FOG of DAY 6; behind DAY 7: 12
    due("the DAY", x.count(2), 5);
    due("9", x.when(0, 9), 1);
    due("10, behind the FOG of DAY 6", x.when(0, 10), 3);
    due("a COOK on DAY 7, from DAY 5", x.when(1, 90), 2);
    due("nothing is changed", x.of(0, 1), 6);
  }

  // ---- BEST, FEWEST

  private static void bestFromNobodyToAll() {
    // 9, 5, 0, 4, 4, 8 less
    ShameAngles x = told("ship 5;man 0 9;man 0 15;man 0 20;man 0 34;man 0 44;man 0 58;reader 4;");
    int[] which = {0, 4, 4 + 8, 4 + 8 + 16, 2 + 4 + 8 + 16, 2 + 4 + 8 + 16 + 32, 63};
    int[] far = {0, 0, 4, 8, 13, 21, 30};
    for (int n = 0; n <= 6; n++) {
      due("best(" + n + ", 0, 0)", x.best(n, 0, 0), which[n]);
      due("best(" + n + ", 0, 1)", x.best(n, 0, 1), far[n]);
    }
    due("best(7, 0, 0)", x.best(7, 0, 0), -2);
    due("best(-1, 0, 0)", x.best(-1, 0, 0), -2);
    due("best(0, 0, 2)", x.best(0, 0, 2), -2);
    x = told("ship 5;reader 4;");
    due("without MEN", x.best(0, 0, 0), 0);
    due("without MEN, how far", x.best(0, 0, 1), 0);
    due("without MEN, one", x.best(1, 0, 0), -2);
    x = told("ship 5;man 0 1;man 0 1;man 0 1;man 0 1;man 0 1;man 0 0;reader 4;");
    due("the last MAN alone", x.best(1, 0, 0), 32);
    x = told("ship 5;man 0 9;man 0 9;man 0 9;man 0 9;man 0 9;man 0 9;reader 4;");
    due("the farthest", x.best(6, 0, 1), 54);
  }

  private static void bestOfLikeOnesTheLeast() {
    ShameAngles x = told("ship 5;fog 0 1;man 0 9;man 0 8;man 0 8;man 0 8;man 0 8;man 0 7;reader 4;reader 1;reader 2;");
    due("7 and an 8: the least", x.best(2, 0, 0), 2 + 32);
    due("7 and an 8: how far", x.best(2, 0, 1), 15);
    due("three", x.best(3, 0, 0), 2 + 4 + 32);
    int[] least = {0, 1, 3, 7, 15, 31, 63};
    for (int n = 0; n <= 6; n++) {
      due("SQUINT: 2 more of each", x.best(n, 1, 0), least[n]);
      due("SQUINT: how far", x.best(n, 1, 1), 2 * n);
      due("INDEX: 3 less of each", x.best(n, 2, 0), least[n]);
      due("INDEX: how far", x.best(n, 2, 1), 3 * n);
    }
    x.noon(0, 0);
    for (int n = 0; n <= 6; n++) {
      due("in FOG", x.best(n, 0, 0), least[n]);
      due("in FOG, how far", x.best(n, 0, 1), 0);
    }
  }

  private static void fewestAtItsEnds() {
    ShameAngles x = told("ship 5;fog 0 1;man 0 9;man 0 19;man 0 29;man 0 39;man 0 49;man 0 59;reader 4;reader 0;");
    due("of -54: all", x.fewest(-54, 0), 63);
    due("of -53", x.fewest(-53, 0), -1);
    due("of -9: of like ones the least", x.fewest(-9, 0), 1);
    due("of -18", x.fewest(-18, 0), 3);
    due("of -45", x.fewest(-45, 0), 31);
    due("of 0: nobody", x.fewest(0, 0), 0);
    due("of 0 by a TRUE one: nobody", x.fewest(0, 1), 0);
    due("of 9", x.fewest(9, 0), -1);
    due("of 99", x.fewest(99, 0), -1);
    due("of -99", x.fewest(-99, 0), -1);
    due("of 100", x.fewest(100, 0), -2);
    due("of -100", x.fewest(-100, 0), -2);
    due("BAD", x.status(0), 2);
    x.noon(0, 0);
    due("of 0 in FOG", x.fewest(0, 0), 0);
    due("of -9 in FOG", x.fewest(-9, 0), -1);
    x = told("ship 5;man 0 90;man 0 90;man 0 90;man 0 90;man 0 90;man 0 90;reader 3;");
    due("of 30: all", x.fewest(30, 0), 63);
    due("of 5", x.fewest(5, 0), 1);
    due("of -5", x.fewest(-5, 0), -1);
    x = told("ship 5;reader 3;");
    due("without MEN, of 0", x.fewest(0, 0), 0);
    due("without MEN, of 1", x.fewest(1, 0), -1);
  }

  private static void fewestAheadOfLeast() {
    // 1, 2, 3, 6, 6, 3 less
    ShameAngles x = told("ship 5;man 0 1;man 0 2;man 0 3;man 0 6;man 0 6;man 0 3;reader 4;");
    due("3: one, not 1 and 2", x.fewest(-3, 0), 4);
    due("6: one, not 1, 2 and 3", x.fewest(-6, 0), 8);
    due("9: two, of like ones the least", x.fewest(-9, 0), 4 + 8);
    due("5: two", x.fewest(-5, 0), 2 + 4);
    due("21: all", x.fewest(-21, 0), 63);
    due("20: all but the first", x.fewest(-20, 0), 62);
    x = told("ship 5;man 0 5;man 0 5;man 0 5;man 0 5;man 0 5;man 0 10;reader 4;reader 3;");
    due("the last alone is of no ERROR: nobody", x.fewest(0, 0), 0);
    due("DIP: 2 of each", x.fewest(4, 1), 3);
  }

  // ---- CAPE

  private static void row(ShameAngles x, int cape, int r, int... whom) {
    due("cape(" + cape + ", " + r + ", -1)", x.cape(cape, r, -1), whom.length);
    for (int i = 0; i < whom.length; i++) {
      due("cape(" + cape + ", " + r + ", " + i + ")", x.cape(cape, r, i), whom[i]);
    }
    for (int i : new int[] {whom.length, whom.length + 1, 99, MAX}) {
      due("cape(" + cape + ", " + r + ", " + i + ")", x.cape(cape, r, i), -5);
    }
  }

  private static void none(ShameAngles x, int cape, int r) {
    for (int i : new int[] {-1, 0, 1, 4, 5, 6, 99, MAX}) {
      due("cape(" + cape + ", " + r + ", " + i + ")", x.cape(cape, r, i), -6);
    }
  }

  private static void capeFromNoNoonToFive() {
    ShameAngles x = told("ship 0;man 0 0;reader 1;reader 0;");
    row(x, 0, 0);
    row(x, 2, 0, 0);
    row(x, 4, 0, 0, 0);
    row(x, 6, 0, 0, 0, 0);
    row(x, 8, 0, 0, 0, 0, 0);
    row(x, 10, 0, 0, 0, 0, 0, 0);
    none(x, 12, 0);
    none(x, 1, 0);
    none(x, 99, 0);
    none(x, 2, 1);
    row(x, 0, 1);
    x = told("ship 9;reader 3;");
    row(x, 0, 0);
    row(x, 9, 0, -1);
    row(x, 45, 0, -1, -1, -1, -1, -1);
    none(x, 54, 0);
    none(x, 46, 0);
    none(x, 44, 0);
  }

  private static void capeGoingRound() {
    ShameAngles x = told("ship 9;man 0 0;reader 1;reader 0;" + "noon 1;".repeat(11));
    due("PLACE", x.now(0), 99);
    row(x, 99, 0);
    row(x, 8, 0, -1);
    row(x, 17, 0, -1, -1);
    x = told("ship 0;man 0 9;reader 4;");
    row(x, 91, 0, 0);
    row(x, 83, 0, 0, 0);
    row(x, 65, 0, 0, 0, 0, 0, 0);
    row(x, 99, 0, -1, -1, -1, -1, 0);
    none(x, 64, 0);
  }

  private static void capeNobodyFirstThenRising() {
    ShameAngles x = told("ship 1;man 0 0;man 0 0;reader 1;");
    row(x, 1, 0, -1);
    row(x, 3, 0, 0);
    row(x, 2, 0, -1, -1);
    row(x, 4, 0, -1, 0);
    row(x, 5, 0, -1, -1, 0);
    row(x, 7, 0, -1, 0, 0);
    row(x, 8, 0, -1, -1, 0, 0);
    row(x, 15, 0, 0, 0, 0, 0, 0);
    row(x, 13, 0, -1, 0, 0, 0, 0);
    x = told("ship 0;man 0 0;man 0 0;man 0 0;man 0 0;man 0 0;man 0 7;reader 4;");
    row(x, 93, 0, 5);
    x = told("ship 0;man 0 0;man 0 10;man 0 20;man 0 7;man 0 30;man 0 7;reader 4;");
    row(x, 93, 0, 3);
    // with one measured, the other one is at 10
    row(x, 87, 0, 3, 3);
  }

  private static void capeShameDayFog() {
    ShameAngles x = told("ship 0;man 0 10;reader 4;");
    row(x, 91, 0, 0, 0);
    row(x, 97, 0, -1, 0);
    x = told("ship 0;man 0 50;reader 5;");
    row(x, 97, 0, 0);
    row(x, 96, 0, -1, 0);
    row(x, 93, 0, 0, 0);
    // -3, -4, -3, -4, -3
    row(x, 83, 0, 0, 0, 0, 0, 0);
    x = told("ship 0;fog 1 0 1;man 0 0;reader 1;");
    row(x, 2, 0, -1, 0);
    row(x, 4, 0, -1, 0, -1, 0);
    row(x, 6, 0, -1, 0, -1, 0, 0);
    none(x, 8, 0);
    x = told("ship 0;man 3 0;reader 4;");
    // a COOK at 90 on DAY 0; then 3 more than a LIAR's 5: 8
    row(x, 92, 0, -1, 0);
    // measured on DAY 0: at 5 on DAY 1
    row(x, 95, 0, 0, 0);
  }

  private static void capeOfTheLeastAndMostErrors() {
    ShameAngles x = told("ship 0;man 0 50;reader 2;");
    row(x, 97, 0, 0);
    row(x, 85, 0, 0, 0, 0, 0, 0);
    none(x, 84, 0);
    none(x, 82, 0);
    x = told("ship 0;man 0 50;reader 1;");
    row(x, 10, 0, 0, 0, 0, 0, 0);
    none(x, 11, 0);
    x = told("ship 0;man 4 90;reader 3;");
    row(x, 5, 0, 0);
    row(x, 25, 0, 0, 0, 0, 0, 0);
    none(x, 26, 0);
    none(x, 30, 0);
    // ADMIRALS at 9 (of 37 .. 39) and below; measured thrice, then the other one, then the first is at 9 again
    x = told("ship 0;man 5 39;man 5 30;reader 4;");
    row(x, 55, 0, 0, 0, 0, 1, 0);
    none(x, 54, 0);
    x = told("ship 0;fog 1;man 0 50;reader 5;noon 0;");
    row(x, 96, 0, 0);
    // 4, 3, 4, 3, 4 less
    row(x, 82, 0, 0, 0, 0, 0, 0);
    none(x, 81, 0);
    for (int kind = 0; kind <= 5; kind++) {
      // 2 more at most: four times 11 are not 45 yet
      x = told("ship 9;man 0 0;reader " + kind + ";");
      row(x, 9, 0, -1);
      row(x, 18, 0, -1, -1);
      row(x, 27, 0, -1, -1, -1);
      row(x, 36, 0, -1, -1, -1, -1);
      row(x, 45, 0, -1, -1, -1, -1, -1);
    }
    x = told("ship 9;man 4 90;reader 3;");
    row(x, 70, 0, 0, 0, 0, 0, 0);
    none(x, 71, 0);
  }

  private static void capeChangesNothing() {
    Edge.leaves("cape of three NOONS", () -> told("ship 1;man 0 0;reader 1;"), x -> x.cape(5, 0, -1), 3, Edge.NOTHING);
    Edge.leaves("cape, none", () -> told("ship 1;man 0 0;reader 1;"), x -> x.cape(50, 0, 3), -6, Edge.NOTHING);
    ShameAngles x = told("ship 1;man 0 0;reader 1;");
    due("cape(0, 0, -2)", x.cape(0, 0, -2), -10);
    due("cape(-1, 0, -1)", x.cape(-1, 0, -1), -10);
    due("cape(100, 0, -1)", x.cape(100, 0, -1), -10);
    due("cape(0, 1, -1)", x.cape(0, 1, -1), -10);
    due("BAD", x.status(0), 4);
  }

  // ---- WATCH, MUTINY

  private static void ways(ShameAngles x, int ways, int... first) {
    due("watch(-1)", x.watch(-1), ways);
    for (int i = 0; i < x.count(0); i++) {
      due("watch(" + i + ")", x.watch(i), ways == 0 ? -6 : first[i]);
    }
    due("watch of one who is not there", x.watch(x.count(0)), -10);
    due("watch(-2)", x.watch(-2), -10);
  }

  private static void watchFromNoWayToAll() {
    ways(new ShameAngles(), 1);
    ways(told("ship 5;reader 0;reader 0;reader 0;"), 1);
    ways(told("ship 5;man 0 0;"), 0);
    ways(told("ship 5;man 0 0;reader 0;"), 1, 0);
    ways(told("ship 5;man 0 0;reader 0;reader 0;reader 0;"), 3, 0);
    ways(told("ship 5;man 0 0;man 0 0;reader 0;"), 0);
    ways(told("ship 5;man 0 0;man 0 0;reader 0;reader 0;reader 0;"), 0);
    ways(told("ship 5;man 0 0;man 0 0;reader 0;reader 1;"), 2, 0, 1);
    ways(told("ship 5;man 0 9;man 0 9;reader 0;reader 1;reader 2;"), 6, 0, 1);
    ways(told("ship 5;man 0 9;man 0 9;man 0 9;reader 0;reader 1;reader 2;"), 6, 0, 1, 2);
    ways(told("ship 5;man 0 9;man 0 9;man 0 9;man 0 9;reader 0;reader 1;reader 2;"), 0);
    ways(told("ship 5;man 0 10;man 0 20;man 0 30;man 0 40;man 0 50;man 0 60;reader 0;reader 1;reader 2;"), 729, 0, 0, 0,
        0, 0, 0);
  }

  private static void watchTheFirstOne() {
    // the first and the last are READ as 10 and 12, so the one between them as 14
    ways(told("ship 5;man 0 10;man 0 12;man 0 10;reader 0;reader 1;"), 2, 0, 1, 1);
    // the two behind are READ as 10 and 12, so the first one as 14
    ways(told("ship 5;man 0 12;man 0 10;man 0 10;reader 0;reader 1;"), 2, 1, 0, 1);
    ways(told("ship 5;man 0 10;man 0 10;reader 0;reader 0;reader 1;"), 4, 0, 2);
    // far apart, but alike by SILVERED
    ways(told("ship 5;man 0 11;man 0 19;reader 4;reader 0;"), 3, 0, 1);
    // five apart, and the last as the first by all but the last READER
    ways(told("ship 5;man 0 40;man 0 1;man 0 9;man 0 60;man 0 80;man 0 40;reader 0;reader 0;reader 1;"), 2 * 2 * 81, 0, 0,
        0, 0, 0, 2);
  }

  private static void watchToday() {
    // 3 and 4 by TIRED: 0 and 1 on DAY 0, 0 and 0 on DAY 1
    ShameAngles x = told("ship 5;fog 1 1;man 0 3;man 0 4;reader 5;");
    ways(x, 1, 0, 0);
    x.noon(0, 0);
    ways(x, 0);
    x.noon(0, 0);
    ways(x, 1, 0, 0);
    Edge.leaves("watch", () -> Edge.rich(6, 3), y -> y.watch(-1), Edge.rich(6, 3).watch(-1), Edge.NOTHING);
  }

  private static void mutinyFromNoneToAll() {
    due("without MEN", told("ship 5;reader 0;").mutiny(0), 0);
    due("one MAN", told("ship 5;man 0 9;reader 0;").mutiny(0), 1);
    due("two apart", told("ship 5;man 0 9;man 0 8;reader 0;").mutiny(0), 1);
    due("two alike", told("ship 5;man 0 9;man 0 9;reader 0;").mutiny(0), 3);
    ShameAngles x = told("ship 5;man 0 9;man 0 1;man 0 2;man 0 3;man 0 0;man 0 4;reader 4;reader 2;reader 0;");
    due("all", x.mutiny(0), 63);
    due("at 0: INDEX", x.mutiny(1), 2 + 4 + 8 + 16);
    due("all apart", x.mutiny(2), 1);
    due("mutiny(3)", x.mutiny(3), -2);
    due("mutiny(-1)", x.mutiny(-1), -2);
    x = told("ship 5;man 0 1;man 0 2;man 0 3;man 0 4;man 0 9;man 0 9;reader 0;");
    due("the last two", x.mutiny(0), 16 + 32);
    x = told("ship 5;man 0 9;man 0 9;man 0 3;man 0 3;man 0 3;man 0 1;reader 0;");
    due("three, not two with a MAN less", x.mutiny(0), 4 + 8 + 16);
  }

  private static void mutinyOfLikeOnes() {
    due("0, 5 and 1, 2", told("ship 5;man 0 9;man 0 3;man 0 3;man 0 1;man 0 2;man 0 9;reader 0;").mutiny(0), 1 + 32);
    due("0, 3, 5 and 1, 2, 4", told("ship 5;man 0 9;man 0 3;man 0 3;man 0 9;man 0 3;man 0 9;reader 0;").mutiny(0),
        1 + 8 + 32);
    due("1, 5 and 2, 3", told("ship 5;man 0 1;man 0 3;man 0 4;man 0 4;man 0 2;man 0 3;reader 0;").mutiny(0), 2 + 32);
    due("0, 1 and 2, 3 and 4, 5", told("ship 5;man 0 7;man 0 7;man 0 6;man 0 6;man 0 5;man 0 5;reader 0;").mutiny(0), 3);
  }

  private static void mutinyToday() {
    ShameAngles x = told("ship 5;fog 1 1;man 0 3;man 0 4;man 3 0;man 1 0;reader 5;reader 0;");
    due("TIRED on DAY 0, in FOG: 0, 1, 87, 2", x.mutiny(0), 1);
    due("TRUE on DAY 0: 3, 4, 90, 5", x.mutiny(1), 1);
    x.noon(0, 0);
    due("TIRED on DAY 1: 0, 0, 1, 1", x.mutiny(0), 3);
    due("TRUE on DAY 1: 3, 4, 5, 5", x.mutiny(1), 4 + 8);
  }

  private static void readings() {
    Edge.test("ANGLE of a MAN today", EdgesAngles::angleOfToday);
    Edge.test("what a READER READS of it today (FOG or not)", EdgesAngles::readsFogOrNot);
    Edge.test("what a READER READS, the least and the most", EdgesAngles::readsAtItsEnds);
    Edge.test("all that it READS of them, less all their ANGLES; BAD: -1000", EdgesAngles::errorAtItsEnds);
    Edge.test("ERROR: 0 in FOG", EdgesAngles::errorInFog);
    Edge.test("READS (0 at least)", EdgesAngles::errorOfReadingAtLeastNought);
    Edge.test("PLACE less LOG, as -50 .. 49 going round", EdgesAngles::offGoingRound);
    Edge.test("OFF (may be below 0)", EdgesAngles::offBelowNought);
    Edge.test("OFF behind m (0 .. 60) NOONS", EdgesAngles::thenFromNoNoonsToSixty);
    Edge.test("the same set measured by the same READER each time", EdgesAngles::thenShameAndFogAndDay);
    Edge.test("DAYS go beyond 999 in them", EdgesAngles::thenBeyondDay999);
    Edge.test("in how many DAYS (0 .. 60), an ANGLE of x (1 .. 90) or more first; none", EdgesAngles::whenTodayToSixty);
    Edge.test("nobody measured", EdgesAngles::whenFogAndDay);
  }

  private static void sets() {
    Edge.test("BEST of n MEN (0 .. as many as there are)", EdgesAngles::bestFromNobodyToAll);
    Edge.test("nearest to 0; of like ones the least", EdgesAngles::bestOfLikeOnesTheLeast);
    Edge.test("FEWEST for an ERROR e (-99 .. 99); none", EdgesAngles::fewestAtItsEnds);
    Edge.test("the fewest MEN (bits; of like ones the least)", EdgesAngles::fewestAheadOfLeast);
    Edge.test("the fewest NOONS (0 .. 5); none; not so many", EdgesAngles::capeFromNoNoonToFive);
    Edge.test("behind which PLACE is x, going round", EdgesAngles::capeGoingRound);
    Edge.test("nobody (NONE) first, then rising", EdgesAngles::capeNobodyFirstThenRising);
    Edge.test("at each of which one MAN or nobody is measured by a READER", EdgesAngles::capeShameDayFog);
    Edge.test("CAPE by the least and the most ERROR", EdgesAngles::capeOfTheLeastAndMostErrors);
    Edge.test("Nothing is changed by these", EdgesAngles::capeChangesNothing);
    Edge.test("how many ways there are (without MEN 1)", EdgesAngles::watchFromNoWayToAll);
    Edge.test("who READS the i-th in the first one (rising)", EdgesAngles::watchTheFirstOne);
    Edge.test("no two of all are READ alike today", EdgesAngles::watchToday);
    Edge.test("the most MEN that it READS alike today: bits", EdgesAngles::mutinyFromNoneToAll);
    Edge.test("of like ones the set with the least MAN", EdgesAngles::mutinyOfLikeOnes);
    Edge.test("READS alike today", EdgesAngles::mutinyToday);
  }

  public static void main(String[] args) {
    readings();
    sets();
    Edge.end();
  }
}
