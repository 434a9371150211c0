/** Edges of "what there is" (promises 38 to 42; THE FRACTION is in EdgesWas). */
public final class EdgesHave {
  private static void due(String call, long got, long want) {
    Edge.due(call, got, want);
  }

  private static ShameAngles told(String text) {
    return Edge.told(text);
  }

  // ---- IMAGES

  private static void imagesNoneKept() {
    for (int i = 0; i <= 1; i++) {
      int k = i;
      Edge.leaves("from(" + k + ")", ShameAngles::new, x -> x.from(k), -3, Edge.AS_NO);
      ShameAngles x = Edge.told("ship 5;man 0 9;");
      due("image(" + i + ")", x.image(i), 1);
      due("the other one", x.from(1 - i), -3);
      due("MEN stay", x.count(0), 1);
      due("from(" + i + ")", x.from(i), 1);
      due("NO", x.status(1), 1);
    }
    for (int i : new int[] {-1, 2}) {
      Edge.leaves("image(" + i + ")", () -> Edge.rich(2, 2), x -> x.image(i), -2, Edge.AS_BAD);
      Edge.leaves("from(" + i + ")", () -> Edge.rich(2, 2), x -> x.from(i), -2, Edge.AS_BAD);
      Edge.leaves("from(" + i + "), none kept", ShameAngles::new, x -> x.from(i), -2, Edge.AS_BAD);
    }
  }

  private static void imageOfNobody() {
    ShameAngles x = new ShameAngles();
    long was = x.digest();
    due("image(0)", x.image(0), 1);
    x.man(0, 9);
    x.reader(0);
    x.noon(1, 0);
    x.ship(9);
    due("from(0)", x.from(0), 1);
    due("as it was", x.digest(), was);
    due("COURSE", x.now(2), 5);
    due("undo", x.undo(), -3);
  }

  /** Each of these changes one thing that an IMAGE keeps. */
  private static void change(ShameAngles x, int k) {
    switch (k) {
      case 0: x.ship(3); break;
      case 1: x.fog(0, 1); break;
      case 2: x.fog(5, 0); break;
      case 3: x.man(5, 5); break;
      case 4: x.reader(5); break;
      case 5: x.noon(1, 0); break;
      case 6: x.noon(0, 1); break;
      case 7: x.deed(2, 9); break;
      case 8: x.undo(); break;
      case 9: x.seen(0, 9, 9); break;
      case 10: x.note(0, 9, 9, 9); break;
      case 11: x.mark(0, 9, 9, 9); break;
      case 12: x.forget(0); break;
      case 13: x.forget(1); break;
      case 14: x.forget(2); break;
      case 15: x.read(); break;
      default: x.undo(); x.undo(); x.deed(0, 1); x.deed(1, 1); x.deed(2, 1);
    }
  }

  private static void imagesKeepAll() {
    for (int k = 0; k <= 16; k++) {
      for (int i = 0; i <= 1; i++) {
        ShameAngles x = Edge.rich(3, 2);
        ShameAngles twin = Edge.rich(3, 2);
        x.image(i);
        twin.image(i);
        due("image(" + i + ") changes nothing", x.digest(), Edge.rich(3, 2).digest());
        change(x, k);
        due("other behind the " + k + "th change", x.digest() == twin.digest() ? 1 : 0, 0);
        due("from(" + i + ")", x.from(i), 1);
        Edge.leavesAll("from(" + i + ") behind the " + k + "th change", x, twin, Edge.NOTHING);
      }
    }
  }

  /** One of each, of these numbers. */
  private static ShameAngles oneOfEach(ShameAngles x, int n) {
    x.ship(n);
    x.fog(n, 1);
    x.man(n, 10 + n);
    x.man(5 - n, 20 + n);
    x.reader(n);
    x.seen(0, 30 + n, 40 + n);
    x.note(0, 50 + n, 60 + n, 70 + n);
    x.mark(0, 31 + n, 41 + n, 51 + n);
    x.noon(2, 0);
    x.deed(0, 1 + n);
    return x;
  }

  private static void imagesKeepThemWithOthersInTheirPlace() {
    for (int i = 0; i <= 1; i++) {
      ShameAngles x = oneOfEach(new ShameAngles(), 1);
      x.image(i);
      oneOfEach(x, 4);
      due("other ones", x.digest() == oneOfEach(new ShameAngles(), 1).digest() ? 1 : 0, 0);
      due("from(" + i + ")", x.from(i), 1);
      ShameAngles twin = oneOfEach(new ShameAngles(), 1);
      twin.image(i);
      Edge.leavesAll("from(" + i + ")", x, twin, Edge.NOTHING);
      x = oneOfEach(new ShameAngles(), 1);
      x.image(i);
      for (int k = 0; k <= 2; k++) x.forget(k);
      x.seen(1, 9, 8);
      x.note(1, 7, 6, 5);
      x.mark(0, 4, 3, 2);
      due("from(" + i + ")", x.from(i), 1);
      due("SEEN ones, NOTES, MARKS as they were", x.digest(), oneOfEach(new ShameAngles(), 1).digest());
    }
  }

  /** As many of all as there may be, each number another one by this. */
  private static void fillAll(ShameAngles x, int n) {
    x.ship(n);
    for (int d = 0; d <= 5; d++) x.fog(d, (n + d) % 2);
    for (int i = 0; i <= 5; i++) x.man((i + n) % 6, 10 * i + n);
    for (int r = 0; r <= 2; r++) x.reader((r + n) % 6);
    for (int k = 0; k <= 5; k++) {
      x.seen((k + n) % 6, 10 * k + n, 11 * k + n);
      x.note((k + n) % 6, 12 * k + n, 13 * k + n, 14 * k + n);
      x.mark((k + n) % 3, 15 * k + n, 16 * k + n, 17 * k + n);
    }
    for (int k = 0; k <= 7; k++) {
      if (k % 3 == 2) x.deed((k + n) % 6, k + n);
      else x.noon((7 * k + n) % 64, (k + n) % 3);
    }
  }

  private static void imagesKeepAsManyAsThereMayBe() {
    ShameAngles x = new ShameAngles();
    fillAll(x, 1);
    int[] many = {6, 3, 6, x.count(3), 6, 6, 6, 8, 0};
    for (int k = 0; k <= 8; k++) due("count(" + k + ")", x.count(k), many[k]);
    ShameAngles twin = new ShameAngles();
    fillAll(twin, 1);
    x.image(0);
    twin.image(0);
    fillAll(x, 4);
    x.image(1);
    long other = x.digest();
    due("other ones", other == twin.digest() ? 1 : 0, 0);
    due("from(0)", x.from(0), 1);
    due("all of IMAGE 0", x.digest(), twin.digest());
    for (int k = 7; k >= 0; k--) {
      due("undo", x.undo(), twin.undo());
      due("as ahead of the " + k + "th", x.digest(), twin.digest());
    }
    due("from(1)", x.from(1), 1);
    due("all of IMAGE 1", x.digest(), other);
    ShameAngles four = new ShameAngles();
    fillAll(four, 4);
    for (int k = 7; k >= 0; k--) {
      due("undo", x.undo(), four.undo());
      due("as ahead of the " + k + "th", x.digest(), four.digest());
    }
    fillAll(x, 2);
    due("from(0) once more", x.from(0), 1);
    fillAll(twin, 1);
    due("all of IMAGE 0", x.digest(), twin.digest());
  }

  private static void imagesAreApart() {
    ShameAngles x = told("ship 1;man 0 10;reader 0;");
    long first = x.digest();
    x.image(0);
    x.noon(0, 0);
    long second = x.digest();
    x.image(1);
    x.seen(0, 0, 0);
    due("from(0)", x.from(0), 1);
    due("the first", x.digest(), first);
    x.deed(0, 50);
    due("from(1)", x.from(1), 1);
    due("the second", x.digest(), second);
    x.note(0, 0, 0, 0);
    due("from(1)", x.from(1), 1);
    due("the second again", x.digest(), second);
    due("undo", x.undo(), 0);
    due("from(0)", x.from(0), 1);
    due("the first again", x.digest(), first);
    x.mark(0, 0, 0, 0);
    long third = x.digest();
    due("image(1) anew", x.image(1), 1);
    x.forget(2);
    due("from(1)", x.from(1), 1);
    due("the third", x.digest(), third);
    due("from(0)", x.from(0), 1);
    due("the first still", x.digest(), first);
  }

  private static void imagesKeepWhatMayBeUndone() {
    ShameAngles x = told("ship 1;man 0 10;reader 0;");
    for (int k = 0; k < 10; k++) x.noon(0, 0);
    x.image(0);
    for (int k = 0; k < 8; k++) x.undo();
    due("none left", x.undo(), -3);
    due("from(0)", x.from(0), 1);
    due("that may be undone", x.count(7), 8);
    x.deed(0, 1);
    due("it goes on from it: 8 still", x.count(7), 8);
    due("undo of the deed", x.undo(), 10);
    for (int k = 9; k >= 3; k--) {
      due("undo", x.undo(), k);
      due("PLACE", x.now(0), k);
      due("SHAME", x.of(0, 1), 10 + 3 * k);
    }
    due("no more", x.undo(), -3);
    due("from(0)", x.from(0), 1);
    x.fog(0, 0);
    due("none behind a FOG told", x.count(7), 0);
    due("from(0)", x.from(0), 1);
    due("that may be undone", x.count(7), 8);
    x.ship(4);
    due("from(0) behind a COURSE", x.from(0), 1);
    due("that may be undone", x.count(7), 8);
    due("undo", x.undo(), 9);
  }

  private static void imagesLeaveOthers() {
    ShameAngles x = told("ship 1;man 0 11;reader 4;");
    Edge.type(x, "ship 2;");
    x.slips(1, 0, 3);
    x.image(0);
    Edge.type(x, "ship 3;man 0 0;");
    x.slips(1, 0, 9);
    x.now(-1);
    x.undo();
    for (int k = 0; k < 4; k++) x.reader(0);
    due("from(0)", x.from(0), 1);
    due("THE TEXT", x.count(8), 15);
    due("THE FRACTION above", x.part(0), 9);
    due("THE FRACTION below", x.part(1), 10);
    due("BAD", x.status(0), 1);
    due("NO", x.status(1), 1);
    due("FULL", x.status(2), 2);
    due("READERS of it", x.count(1), 1);
    due("read", x.read(), 2);
    due("COURSE", x.now(2), 3);
  }

  private static void imagesInAnImage() {
    ShameAngles x = told("ship 1;");
    x.image(0);
    x.ship(2);
    x.image(1);
    x.from(0);
    due("IMAGE 1 stays behind from(0)", x.from(1), 1);
    due("COURSE", x.now(2), 2);
    x.ship(3);
    x.image(0);
    x.from(1);
    due("COURSE", x.now(2), 2);
    x.from(0);
    due("COURSE of the new IMAGE 0", x.now(2), 3);
  }

  // ---- STATUS, counts

  private static void statusOfEach() {
    ShameAngles x = told("ship 5;man 0 0;man 0 0;man 0 0;man 0 0;man 0 0;man 0 0;");
    for (int k = 0; k <= 2; k++) due("status(" + k + ") at first", x.status(k), 0);
    for (int n = 1; n <= 3; n++) {
      x.now(4);
      due("BAD", x.status(0), n);
    }
    for (int n = 1; n <= 5; n++) {
      x.undo();
      due("NO", x.status(1), n);
    }
    for (int n = 1; n <= 7; n++) {
      x.man(0, 0);
      due("FULL", x.status(2), n);
    }
    due("status(3)", x.status(3), -1);
    due("BAD", x.status(0), 4);
    due("status(-1)", x.status(-1), -1);
    due("BAD", x.status(0), 5);
    due("NO stays", x.status(1), 5);
    due("FULL stays", x.status(2), 7);
  }

  private static void countsAtTheirEnds() {
    ShameAngles x = told("ship 9;man 0 90;man 0 90;man 0 90;man 0 90;man 0 90;man 0 90;reader 0;reader 0;reader 0;");
    due("READERS", x.count(1), 3);
    due("SHAME of all, the most", x.count(3), 540);
    for (int k = 0; k < 9; k++) {
      x.noon(63, 0);
      x.seen(0, 0, 0);
      x.note(0, 0, 0, 0);
      x.mark(0, 0, 0, 0);
    }
    for (int k = 0; k < 151; k++) x.type('a');
    int[] want = {6, 3, 9, 6 * 81, 6, 6, 6, 8, 150};
    for (int k = 0; k <= 8; k++) due("count(" + k + ")", x.count(k), want[k]);
    due("FULL", x.status(2), 10);
    due("count(9)", x.count(9), -2);
    due("count(-1)", x.count(-1), -2);
    due("BAD", x.status(0), 2);
    x = new ShameAngles();
    for (int k = 0; k <= 8; k++) due("count(" + k + ") at first", x.count(k), 0);
  }

  private static void countShameOfAll() {
    ShameAngles x = new ShameAngles();
    int[] sums = {1, 3, 7, 15, 31, 63};
    for (int i = 0; i <= 5; i++) {
      x.man(5 - i, 1 << i);
      due("SHAME of all", x.count(3), sums[i]);
    }
  }

  // ---- digest

  private static long hash(long... values) {
    long h = 1543;
    for (long v : values) h = 31 * h + v;
    return h;
  }

  private static void digestAtFirst() {
    due("digest", new ShameAngles().digest(), hash(0, 0, 0, 0, 0, 0, 0, 0, 0, 0, 0, 5, 0, 0, 0, 0, 0, 0, 0, 1));
    Edge.leaves("digest", ShameAngles::new, ShameAngles::digest, new ShameAngles().digest(), Edge.NOTHING);
  }

  private static void digestFogOfSixDays() {
    for (int f = 0; f <= 5; f++) {
      ShameAngles x = new ShameAngles();
      x.fog(f, 1);
      long[] v = {0, 0, 0, 0, 0, 0, 0, 0, 0, 0, 0, 5, 0, 0, 0, 0, 0, 0, 0, 1};
      v[12 + f] = 1;
      due("digest, FOG of " + f, x.digest(), hash(v));
    }
  }

  private static void digestOfAll() {
    ShameAngles x = told("ship 3;fog 0 1 0 0 1 1;man 5 90;man 4 0;man 3 1;man 2 2;man 1 3;man 0 4;reader 5;reader 3;reader 1;");
    x.noon(1, 1);
    x.noon(2, 0);
    x.deed(5, 6);
    for (int k = 0; k < 6; k++) {
      x.seen(k, 10 + k, 20 + k);
      x.note(5 - k, 30 + k, 40 + k, 50 + k);
      x.mark(k % 3, 60 + k, 70 + k, 80 + k);
    }
    x.slips(0, 0, 3);
    for (int k = 0; k < 150; k++) x.type(k % 128);
    // MAN 0 at 26, a DIP: 2 more; on DAY 1 in FOG
    due("digest", x.digest(), hash(6, 3, 2, 89 + 3 + 4 + 5 + 6 + 13, 6, 6, 6, 3, 150, 8, 6, 3, 0, 1, 0, 0, 1, 1,
        5, 89, 4, 3, 3, 4, 2, 5, 1, 6, 0, 13, 5, 3, 1,
        0, 10, 20, 1, 11, 21, 2, 12, 22, 3, 13, 23, 4, 14, 24, 5, 15, 25,
        5, 30, 40, 50, 4, 31, 41, 51, 3, 32, 42, 52, 2, 33, 43, 53, 1, 34, 44, 54, 0, 35, 45, 55,
        0, 60, 70, 80, 1, 61, 71, 81, 2, 62, 72, 82, 0, 63, 73, 83, 1, 64, 74, 84, 2, 65, 75, 85, 1, 1));
  }

  private static void digestOfSome() {
    ShameAngles x = new ShameAngles();
    x.ship(0);
    x.man(2, 40);
    due("a MAN", x.digest(), hash(1, 0, 0, 40, 0, 0, 0, 0, 0, 0, 0, 0, 0, 0, 0, 0, 0, 0, 2, 40, 0, 1));
    x.reader(4);
    due("a READER", x.digest(), hash(1, 1, 0, 40, 0, 0, 0, 0, 0, 0, 0, 0, 0, 0, 0, 0, 0, 0, 2, 40, 4, 0, 1));
    x.seen(0, 5, 6);
    due("one SEEN", x.digest(), hash(1, 1, 0, 40, 1, 0, 0, 0, 0, 0, 0, 0, 0, 0, 0, 0, 0, 0, 2, 40, 4, 0, 5, 6, 0, 1));
    x.forget(0);
    x.note(0, 7, 8, 9);
    due("a NOTE", x.digest(), hash(1, 1, 0, 40, 0, 1, 0, 0, 0, 0, 0, 0, 0, 0, 0, 0, 0, 0, 2, 40, 4, 0, 7, 8, 9, 0, 1));
    x.forget(1);
    x.mark(0, 7, 8, 9);
    due("a MARK", x.digest(), hash(1, 1, 0, 40, 0, 0, 1, 0, 0, 0, 0, 0, 0, 0, 0, 0, 0, 0, 2, 40, 4, 0, 7, 8, 9, 0, 1));
    x.forget(2);
    x.noon(0, 0);
    due("a NOON", x.digest(), hash(1, 1, 1, 43, 0, 0, 0, 1, 0, 0, 0, 0, 0, 0, 0, 0, 0, 0, 2, 43, 4, 0, 1));
    x.undo();
    x.type(';');
    due("a byte", x.digest(), hash(1, 1, 0, 40, 0, 0, 0, 0, 1, 0, 0, 0, 0, 0, 0, 0, 0, 0, 2, 40, 4, 0, 1));
    x.slips(0, 0, 0);
    due("SLIPS", x.digest(), hash(1, 1, 0, 40, 0, 0, 0, 0, 1, 0, 0, 0, 0, 0, 0, 0, 0, 0, 2, 40, 4, 1, 1));
  }

  public static void main(String[] args) {
    Edge.test("from: NO: none was kept", EdgesHave::imagesNoneKept);
    Edge.test("An IMAGE of nobody", EdgesHave::imageOfNobody);
    Edge.test("IMAGES 0, 1 keep all but ..", EdgesHave::imagesKeepAll);
    Edge.test("IMAGES keep all: others in their place", EdgesHave::imagesKeepThemWithOthersInTheirPlace);
    Edge.test("IMAGES keep all: as many as there may be", EdgesHave::imagesKeepAsManyAsThereMayBe);
    Edge.test("IMAGES 0, 1, apart", EdgesHave::imagesAreApart);
    Edge.test("what may be undone they keep; it goes on from one", EdgesHave::imagesKeepWhatMayBeUndone);
    Edge.test(".. THE TEXT, THE FRACTION and STATUS", EdgesHave::imagesLeaveOthers);
    Edge.test("keep all but them", EdgesHave::imagesInAnImage);
    Edge.test("BAD (0), NO (1), FULL (2). -1: another what (counts as BAD)", EdgesHave::statusOfEach);
    Edge.test("How many", EdgesHave::countsAtTheirEnds);
    Edge.test("3 SHAME of all", EdgesHave::countShameOfAll);
    Edge.test("h = 1543; then h = 31 h + v", EdgesHave::digestAtFirst);
    Edge.test("FOG of six days", EdgesHave::digestFogOfSixDays);
    Edge.test("for each v, all there", EdgesHave::digestOfAll);
    Edge.test("for each v, some there", EdgesHave::digestOfSome);
    Edge.end();
  }
}
