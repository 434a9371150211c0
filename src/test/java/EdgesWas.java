/** Edges of "what it was" (promises 25 to 36) and of THE FRACTION that SLIPS are (promise 37). */
public final class EdgesWas {
  private static final int MAX = Edge.MAX;

  private static void due(String call, long got, long want) {
    Edge.due(call, got, want);
  }

  private static ShameAngles told(String text) {
    return Edge.told(text);
  }

  // ---- SEEN, BEGAN

  private static void seenFromNoneToFull() {
    ShameAngles x = told("ship 5;man 0 0;man 0 0;");
    due("none", x.count(4), 0);
    int[][] rows = {{0, 0, 0}, {1, 99, 90}, {0, 99, 0}, {1, 0, 90}, {0, 50, 45}, {1, 50, 45}};
    for (int k = 0; k < 6; k++) {
      due("seen", x.seen(rows[k][0], rows[k][1], rows[k][2]), k + 1);
      due("count(4)", x.count(4), k + 1);
    }
    due("a 7th", x.seen(0, 0, 0), -4);
    due("count(4)", x.count(4), 6);
    due("count(5)", x.count(5), 0);
    due("count(6)", x.count(6), 0);
    due("forget(0)", x.forget(0), 6);
    due("one again", x.seen(0, 0, 0), 1);
  }

  /** BEGAN of a new MAN of this KIND who stood at these ANGLES, DAY and ANGLE by turns; FOG of days as bits. */
  private static void began(int kind, int fog, int[] told, int many, int least, int greatest) {
    ShameAngles x = new ShameAngles();
    for (int d = 0; d <= 5; d++) x.fog(d, fog >> d & 1);
    x.man(0, 33);
    x.man(kind, 33);
    for (int k = 0; k < told.length; k += 2) x.seen(1, told[k], told[k + 1]);
    StringBuilder s = new StringBuilder("began of KIND " + kind + ", FOG " + fog + ", SEEN");
    for (int n : told) s.append(' ').append(n);
    due(s + ": how many", x.began(1, 0), many);
    due(s + ": the least", x.began(1, 1), least);
    due(s + ": the greatest", x.began(1, 2), greatest);
    due(s + ": of another one", x.began(0, 0), 91);
  }

  private static int[] at(int... dayAndAngle) {
    return dayAndAngle;
  }

  private static void beganFromNoneToAll() {
    began(0, 0, at(), 91, 0, 90);
    began(0, 0, at(0, 0), 1, 0, 0);
    began(0, 0, at(0, 90), 1, 90, 90);
    began(0, 0, at(0, 45), 1, 45, 45);
    began(0, 0, at(0, 45, 0, 46), 0, -1, -1);
    began(0, 0, at(0, 45, 0, 45), 1, 45, 45);
    began(0, 0, at(1, 2), 0, -1, -1);
    began(0, 0, at(1, 3), 1, 0, 0);
    began(0, 0, at(1, 89), 1, 86, 86);
    began(0, 0, at(1, 90), 4, 87, 90);
    began(0, 0, at(29, 90), 88, 3, 90);
    began(0, 0, at(29, 87), 1, 0, 0);
    began(0, 0, at(29, 86), 0, -1, -1);
    began(0, 0, at(30, 90), 91, 0, 90);
    began(0, 0, at(30, 89), 0, -1, -1);
    began(0, 0, at(99, 90), 91, 0, 90);
    began(0, 0, at(99, 89), 0, -1, -1);
    began(0, 0, at(99, 90, 1, 50), 1, 47, 47);
    began(0, 0, at(10, 90, 20, 90, 29, 90), 31, 60, 90);
    began(0, 0, at(29, 90, 20, 90, 10, 90, 1, 90, 99, 90, 30, 90), 4, 87, 90);
  }

  private static void beganFogAsTold() {
    began(0, 63, at(99, 0), 1, 0, 0);
    began(0, 63, at(99, 90), 1, 90, 90);
    began(0, 63, at(1, 45, 98, 45), 1, 45, 45);
    began(0, 1, at(1, 10), 1, 10, 10);
    began(0, 1, at(6, 20), 1, 5, 5);
    began(0, 1, at(7, 20), 1, 5, 5);
    began(0, 1, at(8, 20), 1, 2, 2);
    began(0, 32, at(5, 20), 1, 5, 5);
    began(0, 32, at(6, 20), 1, 5, 5);
    began(0, 32, at(7, 20), 1, 2, 2);
    began(0, 31, at(5, 20), 1, 20, 20);
    began(0, 31, at(6, 20), 1, 17, 17);
    began(0, 31, at(59, 90), 28, 63, 90);
    began(0, 31, at(60, 90), 31, 60, 90);
    // sixteen DAYS of an odd number, of 99 or less, of day 5: 5, 11, .., 95
    began(0, 31, at(99, 90), 49, 42, 90);
    began(0, 4, at(2, 16), 1, 10, 10);
    began(0, 4, at(3, 16), 1, 10, 10);
    began(0, 4, at(4, 16), 1, 7, 7);
    ShameAngles x = told("ship 5;man 0 0;");
    x.seen(0, 2, 16);
    due("no FOG", x.began(0, 1), 10);
    x.fog(0, 1);
    due("FOG told", x.began(0, 1), 13);
    x.fog(1, 1);
    due("more of it", x.began(0, 1), 16);
    x.fog(0, 0);
    due("less of it", x.began(0, 1), 13);
  }

  private static void beganOfKinds() {
    began(1, 0, at(0, 90), 6, 85, 90);
    began(1, 0, at(0, 5), 1, 0, 0);
    began(1, 0, at(0, 4), 0, -1, -1);
    began(2, 0, at(0, 0), 11, 0, 10);
    began(2, 0, at(0, 80), 1, 90, 90);
    began(2, 0, at(0, 81), 0, -1, -1);
    began(2, 0, at(0, 0, 29, 80), 8, 3, 10);
    began(3, 0, at(0, 90), 91, 0, 90);
    began(3, 0, at(0, 89), 0, -1, -1);
    began(3, 0, at(7, 90), 91, 0, 90);
    began(3, 0, at(98, 90), 91, 0, 90);
    began(3, 0, at(1, 8), 1, 0, 0);
    began(3, 0, at(8, 90), 30, 61, 90);
    began(4, 0, at(0, 90), 31, 60, 90);
    began(4, 0, at(0, 1), 0, -1, -1);
    began(4, 0, at(0, 2), 1, 1, 1);
    began(5, 0, at(0, 0), 13, 0, 12);
    began(5, 0, at(0, 25), 3, 85, 87);
    began(5, 0, at(0, 26), 3, 88, 90);
    began(5, 0, at(0, 27), 0, -1, -1);
  }

  private static void beganNobodyMeasuredNoDeeds() {
    ShameAngles x = told("ship 5;man 0 40;reader 0;");
    x.seen(0, 3, 49);
    due("least", x.began(0, 1), 40);
    x.noon(1, 0);
    x.noon(1, 0);
    x.deed(0, 50);
    due("SHAME now", x.of(0, 1), 88);
    due("least, noons and deeds or not", x.began(0, 1), 40);
    due("how many", x.began(0, 0), 1);
    x.undo();
    due("SEEN stay", x.count(4), 1);
    due("began(0, 3)", x.began(0, 3), -2);
    due("began(0, -1)", x.began(0, -1), -2);
    due("began(1, 0)", x.began(1, 0), -2);
    due("began(-1, 0)", x.began(-1, 0), -2);
  }

  // ---- NOTES, IS, LOOK

  private static void notesFromNoneToFull() {
    ShameAngles x = told("ship 5;man 0 0;man 0 0;");
    due("none", x.count(5), 0);
    int[][] rows = {{0, 0, 0, 0}, {1, 90, 99, 90}, {0, 90, 0, 0}, {1, 0, 99, 90}, {0, 0, 0, 90}, {1, 45, 50, 45}};
    for (int k = 0; k < 6; k++) {
      due("note", x.note(rows[k][0], rows[k][1], rows[k][2], rows[k][3]), k + 1);
      due("count(5)", x.count(5), k + 1);
    }
    due("a 7th", x.note(0, 0, 0, 0), -4);
    due("count(5)", x.count(5), 6);
    due("count(4)", x.count(4), 0);
    due("count(6)", x.count(6), 0);
    due("forget(1)", x.forget(1), 6);
    due("one again", x.note(0, 0, 0, 0), 1);
  }

  /** IS and LOOK of one with these NOTES, SHAME, DAY and ANGLE by turns. */
  private static void is(int bits, int look, int... told) {
    ShameAngles x = new ShameAngles();
    x.man(3, 33);
    x.man(2, 44);
    StringBuilder s = new StringBuilder(" by NOTES");
    for (int k = 0; k < told.length; k += 3) {
      x.note(1, told[k], told[k + 1], told[k + 2]);
      s.append(" (").append(told[k]).append(' ').append(told[k + 1]).append(' ').append(told[k + 2]).append(')');
    }
    due("is" + s, x.is(1), bits);
    due("look" + s, x.look(1), look);
    due("is of another one" + s, x.is(0), 63);
    due("look of another one" + s, x.look(0), 2);
  }

  private static void isFromNoKindToAll() {
    is(63, 2);
    is(0, -1, 0, 0, 1);
    is(0, -1, 90, 99, 89);
    is(1, 0, 1, 0, 1);
    is(2, 0, 0, 0, 5);
    is(4, 0, 11, 0, 1);
    is(8, 0, 0, 0, 90);
    is(8, 0, 0, 7, 90);
    is(8, 0, 0, 98, 90);
    is(0, -1, 0, 99, 90);
    is(16, 0, 1, 0, 2);
    is(32, 0, 13, 0, 1);
    is(32, 0, 90, 0, 26);
    is(1 + 2 + 8 + 16, 2, 90, 0, 90);
    is(1 + 2 + 8 + 16, 2, 90, 99, 90);
    is(1 + 4 + 16 + 32, 2, 0, 0, 0);
    is(4 + 32, 2, 10, 0, 0);
    is(2 + 8, 0, 0, 1, 5);
    is(2 + 8, 0, 84, 6, 89);
    is(2 + 8 + 16, 0, 85, 1, 90);
    is(8 + 16, 0, 60, 0, 90);
    is(2 + 16, 0, 10, 7, 15);
  }

  private static void isByAllNotes() {
    // PLAIN or BOSUN, at 10: 10 and 15
    is(1 + 16, 1, 90, 0, 90, 0, 0, 0);
    is(2, 0, 0, 1, 5, 0, 0, 5);
    is(8, 0, 0, 1, 5, 0, 7, 90);
    is(0, -1, 0, 1, 5, 1, 0, 1);
    is(1, 0, 90, 1, 90, 0, 2, 0, 2, 3, 2);
    is(0, -1, 0, 0, 0, 0, 0, 0, 0, 0, 0, 0, 0, 0, 0, 0, 0, 0, 0, 1);
    is(16, 0, 90, 0, 90, 0, 0, 0, 0, 0, 0, 0, 0, 0, 0, 0, 0, 59, 0, 89);
  }

  private static void isOfNobodyThere() {
    ShameAngles x = told("ship 5;man 0 0;");
    due("is(1)", x.is(1), -2);
    due("is(-1)", x.is(-1), -2);
    due("look(1)", x.look(1), -2);
    due("look(-1)", x.look(-1), -2);
    due("BAD", x.status(0), 4);
    x.note(0, 0, 0, 1);
    due("look of no KIND", x.look(0), -1);
    due("BAD", x.status(0), 4);
  }

  // ---- MARKS, WHAT, ASK

  private static void marksFromNoneToFull() {
    ShameAngles x = told("ship 5;reader 0;reader 0;");
    due("none", x.count(6), 0);
    int[][] rows = {{0, 0, 0, 0}, {1, 90, 99, 99}, {0, 90, 0, 0}, {1, 0, 99, 90}, {0, 0, 0, 99}, {1, 45, 50, 45}};
    for (int k = 0; k < 6; k++) {
      due("mark", x.mark(rows[k][0], rows[k][1], rows[k][2], rows[k][3]), k + 1);
      due("count(6)", x.count(6), k + 1);
    }
    due("a 7th", x.mark(0, 0, 0, 0), -4);
    due("count(6)", x.count(6), 6);
    due("count(4)", x.count(4), 0);
    due("count(5)", x.count(5), 0);
    due("forget(2)", x.forget(2), 6);
    due("one again", x.mark(0, 0, 0, 0), 1);
  }

  /** WHAT and ASK of one with these MARKS, ANGLE, DAY and what was READ by turns. */
  private static void what(int bits, int ask, int... told) {
    ShameAngles x = new ShameAngles();
    x.reader(3);
    x.reader(2);
    StringBuilder s = new StringBuilder(" by MARKS");
    for (int k = 0; k < told.length; k += 3) {
      x.mark(1, told[k], told[k + 1], told[k + 2]);
      s.append(" (").append(told[k]).append(' ').append(told[k + 1]).append(' ').append(told[k + 2]).append(')');
    }
    due("kinds" + s, x.kinds(1), bits);
    due("ask" + s, x.ask(1), ask);
    due("kinds of another one" + s, x.kinds(0), 63);
    due("ask of another one" + s, x.ask(0), 131);
  }

  private static void whatFromNoKindToAll() {
    what(63, 131);
    what(0, -1, 0, 0, 1);
    what(0, -1, 90, 99, 99);
    what(1 + 4 + 16 + 32, 105, 0, 0, 0);
    what(1 + 4 + 16 + 32, 105, 0, 99, 0);
    what(2 + 8, 30, 0, 0, 2);
    what(2 + 8, 30, 29, 99, 31);
    what(2, 0, 30, 0, 32);
    what(8, 0, 30, 0, 33);
    what(8, 0, 60, 0, 64);
    what(8, 0, 90, 99, 95);
    what(1 + 16, 1, 10, 0, 10);
    what(1 + 16, 1, 90, 99, 90);
    what(1, 0, 1, 0, 1);
    what(16, 0, 4, 0, 0);
    what(4 + 32, 104, 4, 0, 1);
    what(4 + 32, 104, 90, 98, 87);
    what(4, 0, 4, 1, 1);
    what(32, 0, 90, 99, 86);
    what(4 + 16 + 32, 105, 3, 1, 0);
    what(16 + 32, 4, 4, 1, 0);
    what(4 + 16, 4, 13, 1, 10);
  }

  private static void whatByAllMarks() {
    what(4, 0, 4, 0, 1, 4, 1, 1);
    what(32, 0, 4, 0, 1, 90, 3, 86);
    what(2, 0, 0, 0, 2, 30, 0, 32);
    what(0, -1, 0, 0, 2, 0, 0, 0);
    what(0, -1, 0, 0, 0, 0, 0, 0, 0, 0, 0, 0, 0, 0, 0, 0, 0, 0, 0, 1);
    what(16, 0, 0, 0, 0, 0, 1, 0, 10, 0, 10, 20, 0, 20, 30, 1, 30, 9, 1, 0);
  }

  private static void whatOfNobodyThere() {
    ShameAngles x = told("ship 5;reader 0;");
    due("kinds(1)", x.kinds(1), -2);
    due("kinds(-1)", x.kinds(-1), -2);
    due("ask(1)", x.ask(1), -2);
    due("ask(-1)", x.ask(-1), -2);
    due("BAD", x.status(0), 4);
    x.mark(0, 0, 0, 1);
    due("ask of no KIND", x.ask(0), -1);
    due("BAD", x.status(0), 4);
  }

  // ---- FORGET

  private static void forgetEach() {
    for (int what = 0; what <= 2; what++) {
      for (int n = 0; n <= 6; n++) {
        ShameAngles x = told("ship 5;man 0 0;reader 0;");
        for (int k = 0; k < n; k++) {
          x.seen(0, 0, k);
          x.note(0, 0, 0, k + 6);
          x.mark(0, 0, 0, k + 3);
        }
        due("forget(" + what + ")", x.forget(what), n);
        for (int k = 0; k <= 2; k++) due("count(" + (4 + k) + ")", x.count(4 + k), k == what ? 0 : n);
        due("began", x.began(0, 0), what == 0 || n == 0 ? 91 : n == 1 ? 1 : 0);
        due("is", x.is(0), what == 1 || n == 0 ? 63 : 0);
        due("kinds", x.kinds(0), what == 2 || n == 0 ? 63 : 0);
        due("forget again", x.forget(what), 0);
      }
    }
    Edge.leaves("forget(3)", () -> Edge.rich(3, 3), x -> x.forget(3), -2, Edge.AS_BAD);
    Edge.leaves("forget(-1)", () -> Edge.rich(3, 3), x -> x.forget(-1), -2, Edge.AS_BAD);
  }

  // ---- OFFICERS

  private static void pairs(ShameAngles x, int r, int... pairs) {
    due("officers(" + r + ", -1)", x.officers(r, -1), pairs.length);
    for (int k = 0; k < pairs.length; k++) due("officers(" + r + ", " + k + ")", x.officers(r, k), pairs[k]);
    for (int k : new int[] {pairs.length, pairs.length + 1, 36, MAX}) {
      due("officers(" + r + ", " + k + ")", x.officers(r, k), -5);
    }
    due("officers(" + r + ", -2)", x.officers(r, -2), -10);
  }

  private static void officersFromNoneToAll() {
    pairs(told("ship 5;reader 0;"), 0);
    pairs(told("ship 5;man 0 9;reader 3;"), 0, 0);
    int[] all = new int[36];
    for (int k = 0; k < 36; k++) all[k] = k / 6 * 10 + k % 6;
    pairs(told("ship 5;man 0 9;man 0 9;man 0 9;man 0 9;man 0 9;man 0 9;reader 0;"), 0, all);
    // once, if it is the same one: 2 off; two of them: 4 off
    pairs(told("ship 5;man 0 9;man 0 9;man 0 9;man 0 9;man 0 9;man 0 9;reader 1;"), 0, 0, 11, 22, 33, 44, 55);
    // nobody stands at less than 0, and nobody but the MEN is chosen
    pairs(told("ship 5;man 0 0;reader 0;"), 0, 0);
    pairs(told("ship 5;man 2 10;man 5 12;man 0 0;reader 0;"), 0, 0, 1, 2, 10, 11, 12, 20, 21, 22);
    pairs(told("ship 5;man 0 0;man 0 0;reader 1;"), 0, 0, 11);
    ShameAngles x = told("ship 5;man 0 9;reader 0;");
    due("officers(1, -1)", x.officers(1, -1), -10);
    due("officers(-1, -1)", x.officers(-1, -1), -10);
  }

  private static void officersThatRest() {
    // ANGLES 20, 45, 45, 31; SILVERED: 0, 5, 5, 1 less; with 1: 5, 5, 10, 6 off, with 2: 5, 10, 5, 6 off
    pairs(told("ship 5;man 0 20;man 0 45;man 0 45;man 0 31;reader 4;"), 0, 1, 2, 11, 22);
    // the greatest ANGLE is that of 3, a BOSUN of 31: 47; 7 less; with 20: 7, with 45: 12, with 29: 16
    pairs(told("ship 5;man 0 20;man 0 45;man 0 29;man 4 31;reader 4;"), 0, 3, 33);
    // all are READ 2 more by a SQUINT: the greatest ANGLE alone
    pairs(told("ship 5;man 0 20;man 0 45;man 0 29;man 4 31;reader 1;"), 0, 33);
    // the second one gets 0 by the same one; another one would give him more
    pairs(told("ship 5;man 0 1;man 0 2;reader 0;"), 0, 1, 11);
    pairs(told("ship 5;man 0 2;man 0 1;reader 0;"), 0, 0, 10);
  }

  private static void officersToday() {
    ShameAngles x = told("ship 5;fog 1;man 0 20;man 3 45;man 0 45;reader 1;");
    // in FOG any first one; a COOK is at 90 on DAY 0
    pairs(x, 0, 1, 11, 21);
    x.noon(0, 0);
    // a LIAR's 50 is the greatest still; clear
    pairs(x, 0, 11);
    Edge.leaves("officers", () -> Edge.rich(6, 3), y -> y.officers(0, 0), Edge.rich(6, 3).officers(0, 0), Edge.NOTHING);
  }

  // ---- SLIPS, THE FRACTION

  private static void slips(ShameAngles x, int men, int r, int c, long above, long below) {
    due("slips(" + men + ", " + r + ", " + c + ")", x.slips(men, r, c), 1);
    due("slips(" + men + ", " + r + ", " + c + ") above", x.part(0), above);
    due("slips(" + men + ", " + r + ", " + c + ") below", x.part(1), below);
  }

  private static void fractionAtFirst() {
    ShameAngles x = new ShameAngles();
    due("above", x.part(0), 0);
    due("below", x.part(1), 1);
    due("part(2)", x.part(2), -2);
    due("part(-1)", x.part(-1), -2);
    due("slips, nobody there", x.slips(0, 0, 0), -2);
    due("above", x.part(0), 0);
    due("below", x.part(1), 1);
    slips(told("ship 5;reader 0;"), 0, 0, 0, 1, 1);
    slips(told("ship 5;reader 0;"), 0, 0, 10, 1, 1);
  }

  private static void slipsByNoneToTenOfTen() {
    // 1 less by SILVERED: one slip of one
    ShameAngles x = told("ship 5;man 0 11;man 0 10;man 0 12;reader 4;reader 1;");
    int[] above = {0, 1, 1, 3, 2, 1, 3, 7, 4, 9, 1};
    int[] below = {1, 10, 5, 10, 5, 2, 5, 10, 5, 10, 1};
    for (int c = 0; c <= 10; c++) {
      slips(x, 1, 0, c, above[c], below[c]);
      // no slip of one
      slips(x, 2, 0, c, above[10 - c], below[10 - c]);
      // two slips of one, none of one that is 2 more
      slips(x, 4, 0, c, 0, 1);
      slips(x, 1, 1, c, 0, 1);
      slips(x, 0, 0, c, 1, 1);
    }
    due("slips(1, 0, 11)", x.slips(1, 0, 11), -2);
    due("slips(1, 0, -1)", x.slips(1, 0, -1), -2);
    due("slips(8, 0, 5)", x.slips(8, 0, 5), -2);
    due("slips(1, 2, 5)", x.slips(1, 2, 5), -2);
    due("THE FRACTION stays above", x.part(0), 1);
    due("THE FRACTION stays below", x.part(1), 1);
  }

  private static void slipsOfAll() {
    ShameAngles x = told("ship 5;man 0 11;man 0 11;man 0 11;man 0 11;man 0 11;man 0 11;reader 4;");
    slips(x, 63, 0, 3, 729, 1000000);
    slips(x, 63, 0, 1, 1, 1000000);
    slips(x, 63, 0, 9, 531441, 1000000);
    slips(x, 63, 0, 5, 1, 64);
    slips(x, 63, 0, 0, 0, 1);
    slips(x, 63, 0, 10, 1, 1);
    slips(x, 31, 0, 2, 1, 3125);
    x = told("ship 5;man 0 11;man 0 10;man 0 10;man 0 10;man 0 10;man 0 10;reader 4;");
    slips(x, 63, 0, 3, 151263, 500000);
    slips(x, 62, 0, 3, 16807, 100000);
    slips(x, 63, 0, 10, 0, 1);
    slips(x, 63, 0, 0, 0, 1);
    slips(x, 62, 0, 0, 1, 1);
    x = told("ship 5;man 0 13;man 0 10;man 0 10;man 0 10;man 0 10;man 0 10;reader 4;");
    // three of six by halves: 20 of 64
    slips(x, 63, 0, 5, 5, 16);
    slips(x, 7, 0, 5, 1, 8);
    slips(x, 3, 0, 5, 0, 1);
    slips(x, 15, 0, 5, 1, 4);
    x = told("ship 5;man 0 9;man 0 19;man 0 29;man 0 39;man 0 49;man 0 59;reader 4;reader 3;");
    slips(x, 63, 0, 5, 0, 1);
    slips(x, 63, 1, 5, 0, 1);
  }

  private static void slipsOfWhatIsReadAtLeast() {
    ShameAngles x = told("ship 5;man 0 0;man 0 1;man 0 2;man 0 3;man 0 4;reader 2;");
    slips(x, 1, 0, 4, 3, 5);
    slips(x, 2, 0, 4, 2, 5);
    slips(x, 4, 0, 4, 0, 1);
    slips(x, 3, 0, 4, 12, 25);
    slips(x, 7, 0, 4, 8, 125);
    slips(x, 24, 0, 4, 0, 1);
  }

  private static void slipsTodayAndInFog() {
    ShameAngles x = told("ship 5;fog 1 0 1;man 0 1;man 0 4;reader 5;reader 1;");
    for (int c = 0; c <= 10; c++) {
      slips(x, 3, 0, c, 1, 1);
      slips(x, 3, 1, c, 1, 1);
      slips(x, 0, 1, c, 1, 1);
    }
    due("noon in FOG", x.noon(0, 0), 5);
    slips(x, 1, 0, 3, 3, 10);
    slips(x, 2, 0, 3, 0, 1);
    due("noon", x.noon(0, 0), 10);
    slips(x, 2, 0, 3, 1, 1);
    ShameAngles y = told("ship 5;man 0 11;reader 4;");
    y.slips(1, 0, 3);
    y.noon(1, 0);
    y.ship(5);
    due("THE FRACTION stays above", y.part(0), 3);
    due("THE FRACTION stays below", y.part(1), 10);
    due("all else stays behind SLIPS", changedBySlips(), 0);
  }

  /** How much else than THE FRACTION (and the digest, by it) is other behind SLIPS. */
  private static long changedBySlips() {
    ShameAngles x = Edge.rich(6, 3);
    ShameAngles twin = Edge.rich(6, 3);
    x.slips(63, 1, 5);
    long other = 0;
    for (int k = 0; k <= 8; k++) if (x.count(k) != twin.count(k)) other++;
    for (int k = 0; k <= 3; k++) if (x.now(k) != twin.now(k)) other++;
    for (int k = 0; k <= 2; k++) if (x.status(k) != twin.status(k)) other++;
    for (int i = 0; i <= 5; i++) if (x.of(i, 1) != twin.of(i, 1)) other++;
    return other;
  }

  // ---- VOYAGES

  private static void voyages(ShameAngles x, int seed, int[] noons, int[] want) {
    for (int k = 0; k < noons.length; k++) {
      due("voyages(" + seed + ", " + noons[k] + ")", x.voyages(seed, noons[k]), want[k]);
    }
  }

  private static void voyagesFromNoNoonToSixty() {
    int[] noons = {0, 1, 2, 3, 4, 5, 60};
    ShameAngles x = told("ship 5;man 0 50;man 4 9;man 3 20;man 1 88;man 5 34;man 2 61;reader 1;reader 4;reader 5;");
    voyages(x, 0, noons, new int[] {0, 2, 6, 12, 14, 15, 1542});
    voyages(x, 1, noons, new int[] {0, 3, 10, 20, 34, 51, 1420});
    voyages(x, 77, noons, new int[] {0, 0, 8, 19, 31, 41, 1961});
    voyages(x, 999999, noons, new int[] {0, 3, 10, 15, 21, 30, 1694});
    due("voyages(1000000, 1)", x.voyages(1000000, 1), -2);
    due("voyages(-1, 1)", x.voyages(-1, 1), -2);
    due("voyages(0, 61)", x.voyages(0, 61), -2);
    due("voyages(0, -1)", x.voyages(0, -1), -2);
    due("BAD", x.status(0), 4);
    for (int d = 0; d <= 5; d++) x.fog(d, d == 0 || d == 3 ? 1 : 0);
    voyages(x, 0, noons, new int[] {0, 0, 2, 6, 10, 11, 1440});
    voyages(x, 1, noons, new int[] {0, 0, 4, 11, 18, 28, 1638});
    voyages(x, 999999, noons, new int[] {0, 0, 4, 6, 8, 13, 2040});
  }

  private static void voyagesOfThoseNotThere() {
    int[] noons = {0, 1, 2, 3, 4, 5, 60};
    ShameAngles x = told("ship 5;man 0 50;man 4 9;reader 1;");
    voyages(x, 0, noons, new int[] {0, 2, 6, 10, 14, 18, 640});
    voyages(x, 1, noons, new int[] {0, 0, 0, 0, 0, 0, 494});
    voyages(x, 999999, noons, new int[] {0, 0, 0, 2, 4, 6, 430});
    // MAN 1 has SHAME as if he was not measured where the READER is not there; later he is READ by SILVERED
    voyages(told("ship 5;man 0 10;man 0 1;reader 4;"), 0, new int[] {5, 6, 7, 8}, new int[] {36, 45, 63, 89});
    due("no READER", told("ship 5;man 0 50;").voyages(0, 60), 0);
    due("no MAN", told("ship 5;reader 1;").voyages(0, 60), 0);
    due("nobody", new ShameAngles().voyages(999999, 60), 0);
  }

  private static void voyagesOfEachPair() {
    // the SEEDS by which MAN i is measured by READER r at the first NOON
    int[][] seeds = {{0, 9, 27}, {23, 5, 192}, {15, 202, 1}, {81, 11, 25}, {21, 7, 8}, {17, 18, 3}};
    for (int men = 0; men <= 6; men++) {
      for (int readers = 0; readers <= 3; readers++) {
        ShameAngles x = new ShameAngles();
        for (int i = 0; i < men; i++) x.man(0, 11 + i);
        int[] kinds = {4, 2, 1};
        for (int r = 0; r < readers; r++) x.reader(kinds[r]);
        for (int i = 0; i <= 5; i++) {
          for (int r = 0; r <= 2; r++) {
            // SILVERED: 1 .. 6 less, INDEX: 3 less, SQUINT: 2 more
            int far = i < men && r < readers ? new int[] {1 + i, 3, 2}[r] : 0;
            due("voyages(" + seeds[i][r] + ", 1), " + men + " MEN, " + readers + " READERS", x.voyages(seeds[i][r], 1), far);
          }
        }
      }
    }
  }

  private static void voyagesCut() {
    String men = "man 0 11;man 0 12;man 0 13;man 0 14;man 0 15;man 0 16;";
    ShameAngles silvered = told("ship 5;" + men + "reader 4;reader 4;reader 4;");
    ShameAngles others = told("ship 5;" + men + "reader 1;reader 0;reader 2;");
    // X by 65536 leaves 0 over: 714866688; 65535: 761331711
    due("voyages(239235, 1): MAN 0", silvered.voyages(239235, 1), 1);
    due("voyages(178974, 1): MAN 0", silvered.voyages(178974, 1), 1);
    // X by 1048576 leaves 0 over: 1682964480; 1048575: 202375167
    due("voyages(501379, 1): MAN 0", silvered.voyages(501379, 1), 1);
    due("voyages(899870, 1): MAN 3", silvered.voyages(899870, 1), 4);
    due("voyages(501379, 1): READER 0", others.voyages(501379, 1), 2);
    due("voyages(899870, 1): READER 0", others.voyages(899870, 1), 2);
  }

  private static void voyagesGoOnFromOff() {
    ShameAngles x = told("ship 9;man 0 0;man 0 80;reader 1;reader 0;noon 0 0;");
    due("OFF", x.off(), 2);
    due("no NOON", x.voyages(0, 0), 0);
    // MAN 0 by READER 0 twice, then MAN 4, who is not there
    due("one", x.voyages(0, 1), 4);
    due("two", x.voyages(0, 2), 10);
    due("three", x.voyages(0, 3), 16);
    ShameAngles y = told("ship 9;man 0 3;reader 2;");
    // 3 back, 2 back
    due("below 0: how far", y.voyages(0, 2), 3 + 5);
    Edge.leaves("voyages", () -> Edge.rich(6, 3), z -> z.voyages(7, 60), Edge.rich(6, 3).voyages(7, 60), Edge.NOTHING);
  }

  private static void asTold() {
    Edge.test("SEEN 0 .. 5, as they come; FULL: 6", EdgesWas::seenFromNoneToFull);
    Edge.test("BEGAN: how many; the least; the greatest (NONE: none)", EdgesWas::beganFromNoneToAll);
    Edge.test("FOG as told", EdgesWas::beganFogAsTold);
    Edge.test("so that all SEEN of him are so", EdgesWas::beganOfKinds);
    Edge.test("nobody ever measured, no deeds", EdgesWas::beganNobodyMeasuredNoDeeds);
    Edge.test("NOTES 0 .. 5, as they come; FULL: 6", EdgesWas::notesFromNoneToFull);
    Edge.test("IS: KINDS (bits) by which all NOTES of one are so; LOOK", EdgesWas::isFromNoKindToAll);
    Edge.test("all NOTES of one", EdgesWas::isByAllNotes);
    Edge.test("LOOK: none: no KIND", EdgesWas::isOfNobodyThere);
    Edge.test("MARKS 0 .. 5, as they come; FULL: 6", EdgesWas::marksFromNoneToFull);
    Edge.test("WHAT: KINDS of READERS (bits) by which all MARKS of one are so; ASK", EdgesWas::whatFromNoKindToAll);
    Edge.test("all MARKS of one", EdgesWas::whatByAllMarks);
    Edge.test("ASK: none: no KIND", EdgesWas::whatOfNobodyThere);
    Edge.test("No SEEN ones (0), NOTES (1), MARKS (2): how many there were", EdgesWas::forgetEach);
  }

  private static void byOthers() {
    Edge.test("pairs 10 i and j that rest: how many; the k-th (rising); not so many", EdgesWas::officersFromNoneToAll);
    Edge.test("neither would get more by another one", EdgesWas::officersThatRest);
    Edge.test("OFFICERS today", EdgesWas::officersToday);
    Edge.test("THE FRACTION is 0 by 1 at first", EdgesWas::fractionAtFirst);
    Edge.test("by c of 10 (0 .. 10)", EdgesWas::slipsByNoneToTenOfTen);
    Edge.test("each MAN of a set, apart; lowest terms, below above 0", EdgesWas::slipsOfAll);
    Edge.test("is READ 1 more", EdgesWas::slipsOfWhatIsReadAtLeast);
    Edge.test("the chance that the ERROR is 0 today (in FOG 1)", EdgesWas::slipsTodayAndInFog);
    Edge.test("VOYAGES by a SEED (0 .. 999999), n (0 .. 60) NOONS", EdgesWas::voyagesFromNoNoonToSixty);
    Edge.test("not there: nobody; not there: nobody is", EdgesWas::voyagesOfThoseNotThere);
    Edge.test("MAN .. is measured by READER .., each of them", EdgesWas::voyagesOfEachPair);
    Edge.test("by 65536 (cut), by 6 left over; by 1048576 (cut), by 3 left over", EdgesWas::voyagesCut);
    Edge.test("how far OFF is from 0 behind each of them, all together", EdgesWas::voyagesGoOnFromOff);
  }

  public static void main(String[] args) {
    asTold();
    byOthers();
    Edge.end();
  }
}
