/** For each promise of the document: ordinary calls, its edges, wrong calls; each answer worked out by hand. */
public final class Promises {
  private static final int MIN = Integer.MIN_VALUE, MAX = Integer.MAX_VALUE;

  private static int wrong = 0;
  private static String promise = "";

  private static void due(String call, long got, long want) {
    if (got != want) {
      wrong++;
      System.out.println(promise + ": " + call + " answered " + got + ", due is " + want);
    }
  }

  /** All that a refused call must leave as it was. */
  private static long[] all(ShameAngles x) {
    return new long[] {x.digest(), x.status(0), x.status(1), x.status(2)};
  }

  /** A call was refused: its answer, nothing changed but one STATUS (0 BAD, 1 NO, 2 FULL). */
  private static void refused(String call, ShameAngles x, long[] was, int why, long got, long want) {
    due(call, got, want);
    due(call + " digest behind", x.digest(), was[0]);
    for (int k = 0; k < 3; k++) {
      due(call + " status(" + k + ") behind", x.status(k), was[1 + k] + (k == why ? 1 : 0));
    }
  }

  private static void bad(String call, ShameAngles x, long[] was, long got) {
    refused(call, x, was, 0, got, -2);
  }

  private static ShameAngles type(ShameAngles x, String text) {
    x.clear();
    for (int k = 0; k < text.length(); k++) {
      x.type(text.charAt(k));
    }
    return x;
  }

  /** A ship of this TEXT, which must be without FAULT. */
  private static ShameAngles told(String text) {
    ShameAngles x = type(new ShameAngles(), text);
    int items = x.read();
    if (items < 1) {
      wrong++;
      System.out.println(promise + ": read of " + text + " answered " + items);
    }
    x.clear();
    return x;
  }

  private static void p1New() {
    ShameAngles x = new ShameAngles();
    due("NONE", ShameAngles.NONE, -1);
    due("BAD", ShameAngles.BAD, -2);
    due("NO", ShameAngles.NO, -3);
    due("FULL", ShameAngles.FULL, -4);
    for (int k = 0; k <= 8; k++) {
      due("count(" + k + ")", x.count(k), 0);
    }
    due("now(0)", x.now(0), 0);
    due("now(1)", x.now(1), 0);
    due("now(2)", x.now(2), 5);
    due("now(3)", x.now(3), 0);
    due("part(0)", x.part(0), 0);
    due("part(1)", x.part(1), 1);
    for (int k = 0; k < 3; k++) {
      due("status(" + k + ")", x.status(k), 0);
    }
    due("from(0)", x.from(0), -3);
  }

  private static void p2Ship() {
    ShameAngles x = told("ship 7;fog 1 1;man 0 9;man 1 9;reader 1;fog 0;noon 0 1;");
    x.seen(0, 0, 0);
    x.note(0, 0, 0, 0);
    x.mark(0, 0, 0, 0);
    x.type('a');
    x.deed(0, 1);
    x.slips(0, 0, 0);
    x.image(1);
    x.now(9);
    due("ship(3)", x.ship(3), 2);
    int[] left = {0, 0, 0, 0, 0, 0, 0, 0, 1};
    for (int k = 0; k <= 8; k++) {
      due("count(" + k + ")", x.count(k), left[k]);
    }
    due("PLACE", x.now(0), 0);
    due("LOG", x.now(1), 0);
    due("COURSE", x.now(2), 3);
    for (int d = 0; d < 6; d++) {
      due("FOG of " + d, x.fog(d, 0), 0);
    }
    due("THE FRACTION stays", x.part(0), 1);
    due("STATUS stays", x.status(0), 1);
    due("IMAGES stay", x.from(1), 1);
    due("count(0) of the image", x.count(0), 2);
    due("ship(0)", x.ship(0), 2);
    due("ship(9)", x.ship(9), 0);
    x = told("ship 7;man 0 9;");
    for (int c : new int[] {-1, 10, MIN, MAX}) {
      bad("ship(" + c + ")", x, all(x), x.ship(c));
    }
  }

  private static void p3Fog() {
    ShameAngles x = new ShameAngles();
    due("fog(5, 1)", x.fog(5, 1), 0);
    due("fog(5, 1) again", x.fog(5, 1), 1);
    due("fog(5, 0)", x.fog(5, 0), 1);
    due("fog(0, 1)", x.fog(0, 1), 0);
    due("FOG today", x.now(3), 1);
    int[][] not = {{-1, 0}, {6, 0}, {0, -1}, {0, 2}, {MIN, 0}, {0, MAX}};
    for (int[] n : not) {
      bad("fog(" + n[0] + ", " + n[1] + ")", x, all(x), x.fog(n[0], n[1]));
    }
    x.man(0, 5);
    x.deed(0, 1);
    x.fog(0, 1);
    due("behind a FOG told none may be undone", x.count(7), 0);
  }

  private static void p4Man() {
    ShameAngles x = new ShameAngles();
    int[][] not = {{-1, 0}, {6, 0}, {0, -1}, {0, 91}, {MAX, 0}, {0, MIN}};
    for (int i = 0; i < 6; i++) {
      due("man", x.man(5 - i, 90 - 18 * i), i);
    }
    due("KIND of 1", x.of(1, 0), 4);
    due("SHAME of 1", x.of(1, 1), 72);
    for (int[] n : not) {
      bad("man(" + n[0] + ", " + n[1] + ")", x, all(x), x.man(n[0], n[1]));
    }
    refused("a 7th man", x, all(x), 2, x.man(0, 0), -4);
    x.ship(5);
    x.man(0, 0);
    x.deed(0, 1);
    x.man(0, 0);
    due("behind a MAN none may be undone", x.undo(), -3);
  }

  private static void p5Reader() {
    ShameAngles x = new ShameAngles();
    due("reader(0)", x.reader(0), 0);
    due("reader(5)", x.reader(5), 1);
    for (int kind : new int[] {-1, 6, MIN, MAX}) {
      bad("reader(" + kind + ")", x, all(x), x.reader(kind));
    }
    due("reader(5) again", x.reader(5), 2);
    refused("a 4th reader", x, all(x), 2, x.reader(0), -4);
    bad("reader(6), with three there", x, all(x), x.reader(6));
    x.ship(5);
    x.man(0, 0);
    x.deed(0, 1);
    x.reader(0);
    due("behind a READER none may be undone", x.undo(), -3);
  }

  private static void p6p7Text() {
    ShameAngles x = new ShameAngles();
    bad("type(-1)", x, all(x), x.type(-1));
    bad("type(128)", x, all(x), x.type(128));
    due("type(0)", x.type(0), 1);
    due("type(127)", x.type(127), 2);
    for (int k = 3; k <= 150; k++) {
      due("type", x.type('a'), k);
    }
    refused("a 151st byte", x, all(x), 2, x.type('a'), -4);
    bad("type(128), full", x, all(x), x.type(128));
    due("clear", x.clear(), 150);
    due("clear again", x.clear(), 0);
    due("type behind it", x.type(';'), 1);
  }

  private static void fault(String text, int at) {
    ShameAngles x = new ShameAngles();
    x.ship(4);
    x.man(2, 44);
    x.deed(0, 1);
    x.seen(0, 0, 0);
    type(x, text);
    long[] was = all(x);
    refused("read of \"" + text + "\"", x, was, -1, x.read(), -10 - at);
  }

  private static void p8ReadFaults() {
    fault("", 0);
    fault("   ", 3);
    fault("ship", 4);
    fault("ship 5", 6);
    fault("ship 5 ", 7);
    fault("fog 1;", 0);
    fault(";", 0);
    fault("5;", 0);
    fault(" ships 5;", 1);
    fault("Ship 5;", 0);
    fault("ship;", 4);
    fault("ship ship;", 5);
    fault("ship 10;", 5);
    fault("ship 005;", 5);
    fault("ship 5 5;", 7);
    fault("ship 5;;", 7);
    fault("ship 5; ship 5;", 8);
    fault("ship 5;shipman 0 0;", 7);
    fault("ship 5;end", 7);
    fault("ship 5;9;", 7);
    fault("ship 5;fog;", 10);
    fault("ship 5;fog 2;", 11);
    fault("ship 5;fog 0 1 0 1 0 1 0;", 23);
    fault("ship 5;fog 0 1 0 1 0 1 000;", 23);
    fault("ship 5;man;", 10);
    fault("ship 5;man 6 0;", 11);
    fault("ship 5;man 0;", 12);
    fault("ship 5;man 0 91;", 13);
    fault("ship 5;man 0 100;", 13);
    fault("ship 5;man 030;", 11);
    fault("ship 5;man 0 9 9;", 15);
    fault("ship 5;man plain 9;", 11);
    fault("ship5;man0 0;man0 0;man0 0;man0 0;man0 0;man0 0; man 9", 49);
    fault("ship 5;reader;", 13);
    fault("ship 5;reader 6;", 14);
    fault("ship 5;reader 0 0;", 16);
    fault("ship5;reader0;reader0;reader0;reader", 30);
    fault("ship 5;deed 0 1;", 12);
    fault("ship 5;man 0 9;deed 1 1;", 20);
    fault("ship 5;man 0 9;deed 0 0;", 22);
    fault("ship 5;man 0 9;deed 0 91;", 22);
    fault("ship 5;man 0 9;deed 0;", 21);
    fault("ship 5;man 0 9;deed 0 1 1;", 24);
    fault("ship 5;noon;", 11);
    fault("ship 5;noon 0;", 12);
    fault("ship 5;reader 0;noon 0 0;", 23);
    fault("ship 5;reader 0;man 0 9;noon 1 0;", 29);
    fault("ship 5;reader 0;man 0 9;noon 0 1;", 31);
    fault("ship 5;reader 0;man 0 9;man 0 9;noon 0 1 0 1;", 43);
    fault("ship 5;reader 0;man 0 9;noon 0 0", 32);
    fault("ship 5;noon 0;reader 0;", 12);
    String six = "ship5;reader0;man0 0;man0 0;man0 0;man0 0;man0 0;man0 0;noon0 0 1 2 3 4 5";
    fault(six, 73);
    fault(six + " ", 74);
    fault(six + " 0;", 74);
    fault(six + " 6;", 74);
    fault(six + " x;", 74);
    fault("ship 5;\t", 7);
    fault("ship 5;\0", 7);
    fault("ship 5;fog-1;", 10);
    fault("ship 5;{", 7);
    fault("ship 5;man`0 0;", 10);
    fault("ship 5;man 0:0;", 12);
    fault("ship 5/", 6);
  }

  private static void p8Read() {
    ShameAngles x = new ShameAngles();
    x.man(0, 1);
    x.reader(1);
    x.deed(0, 1);
    x.seen(0, 0, 0);
    x.note(0, 0, 0, 0);
    x.mark(0, 0, 0, 0);
    x.image(0);
    x.slips(0, 0, 0);
    x.now(9);
    String text = "  ship09 ; fog 1;man0 89;man 3 85;reader 01;noon 0 1;deed 1 05;noon0 1 0;noon 0;fog 0 1 ; ";
    type(x, text);
    due("read", x.read(), 10);
    due("COURSE", x.now(2), 9);
    // DAY 0 in FOG: no ERROR, SHAMES stay; the deed: 90; DAY 1: both are READ 2 more
    due("PLACE", x.now(0), 31);
    due("LOG", x.now(1), 27);
    due("the DAY", x.count(2), 3);
    due("SHAME of 0", x.of(0, 1), 90);
    due("SHAME of 1", x.of(1, 1), 90);
    due("KIND of 1", x.of(1, 0), 3);
    due("SEEN", x.count(4), 0);
    due("NOTES", x.count(5), 0);
    due("MARKS", x.count(6), 0);
    due("none may be undone", x.undo(), -3);
    due("THE TEXT stays", x.count(8), text.length());
    due("THE FRACTION stays", x.part(0), 1);
    due("STATUS stays", x.status(0), 1);
    due("FOG of 0", x.fog(0, 0), 0);
    due("FOG of 1", x.fog(1, 0), 1);
    due("FOG of 2", x.fog(2, 0), 0);
    due("IMAGES stay", x.from(0), 1);
    due("what the image's READER READS", x.reads(0, 0), 4);
    due("MEN of the image", x.count(0), 1);
    due("read once more", x.read(), 10);
    x = told("ship0;fog 1 0 1 0 1 1;");
    for (int d = 0; d < 6; d++) {
      due("FOG of " + d, x.fog(d, 0), d == 1 || d == 3 ? 0 : 1);
    }
    x = told("ship 1;man 0 10;man 0 20;man 0 30;man 0 40;man 0 50;man 0 60;reader 0;noon 0 5 4 3 2 1 0;");
    due("six men measured", x.count(3), 204);
  }

  private static void p9Noon() {
    ShameAngles x = told("ship 9;fog 0 0 1;man 0 0;man 0 88;man 0 50;reader 4;reader 3;");
    due("SILVERED of 0, 88", x.noon(3, 0), 1);
    due("LOG", x.now(1), 9);
    due("measured, 0 at least", x.of(0, 1), 0);
    due("measured", x.of(1, 1), 87);
    due("not measured", x.of(2, 1), 53);
    due("the DAY", x.count(2), 1);
    due("DIP of 53", x.noon(4, 1), 13);
    due("not measured", x.of(0, 1), 3);
    due("90 at most", x.of(1, 1), 90);
    due("in FOG", x.noon(7, 1), 22);
    due("SHAMES stay in FOG", x.count(3), 3 + 90 + 52);
    due("going round", told("ship 5;man 0 9;reader 4;").noon(1, 0), 96);
    x.ship(9);
    x.reader(2);
    for (int k = 1; k <= 11; k++) {
      due("PLACE", x.noon(0, 0), 9 * k);
    }
    due("PLACE going round", x.noon(0, 0), 8);
    x.man(0, 1);
    int[][] not = {{-1, 0}, {2, 0}, {0, -1}, {0, 1}, {MIN, 0}, {MAX, 0}, {0, MAX}};
    for (int[] n : not) {
      bad("noon(" + n[0] + ", " + n[1] + ")", x, all(x), x.noon(n[0], n[1]));
    }
    for (int day = 12; day < 999; day++) {
      x.noon(0, 0);
    }
    due("the last DAY", x.count(2), 999);
    refused("noon on DAY 999", x, all(x), 1, x.noon(0, 0), -3);
    bad("noon(2, 0) on DAY 999", x, all(x), x.noon(2, 0));
    due("when beyond it", x.when(0, 90), 0);
    due("then beyond it", x.then(1, 0, 60), -50 + Math.floorMod(-180 + 50, 100));
    due("cape beyond it", x.cape(Math.floorMod(x.now(0) + 45, 100), 0, -1), 5);
    due("deed on it", x.deed(0, 1), 90);
  }

  private static void p10Deed() {
    ShameAngles x = told("ship 5;man 0 80;man 2 1;reader 0;");
    due("deed(0, 9)", x.deed(0, 9), 89);
    due("deed(0, 90)", x.deed(0, 90), 90);
    due("deed(1, 1)", x.deed(1, 1), 2);
    due("the DAY stays", x.count(2), 0);
    int[][] not = {{-1, 1}, {2, 1}, {0, 0}, {0, 91}, {0, -1}, {MAX, 1}, {0, MIN}};
    for (int[] n : not) {
      bad("deed(" + n[0] + ", " + n[1] + ")", x, all(x), x.deed(n[0], n[1]));
    }
  }

  private static void p11Undo() {
    ShameAngles x = told("ship 5;man 0 80;man 0 3;reader 1;");
    refused("undo of nothing", x, all(x), 1, x.undo(), -3);
    x.noon(1, 0);
    x.deed(1, 50);
    x.noon(2, 0);
    due("that may be undone", x.count(7), 3);
    due("undo of a NOON", x.undo(), 1);
    due("PLACE", x.now(0), 7);
    due("LOG", x.now(1), 5);
    due("SHAMES", x.count(3), 79 + 56);
    due("undo of a DEED", x.undo(), 1);
    due("SHAME", x.of(1, 1), 6);
    due("undo of the first", x.undo(), 0);
    due("PLACE", x.now(0), 0);
    due("LOG", x.now(1), 0);
    due("SHAMES", x.count(3), 83);
    due("undo of no more", x.undo(), -3);
    for (int k = 1; k <= 10; k++) {
      x.deed(0, 1);
      due("that may be undone", x.count(7), Math.min(k, 8));
    }
    due("SHAME", x.of(0, 1), 90);
    for (int k = 0; k < 8; k++) {
      due("undo", x.undo(), 0);
    }
    due("SHAME behind eight", x.of(0, 1), 82);
    due("a ninth", x.undo(), -3);
    ShameAngles y = told("ship 1;man 0 10;man 1 0;reader 0;");
    for (int k = 1; k <= 11; k++) {
      due("noon", y.noon(2, 0), k);
    }
    for (int day = 10; day >= 3; day--) {
      due("undo of the last eight", y.undo(), day);
      due("PLACE then", y.now(0), day);
      due("LOG then", y.now(1), day);
      due("SHAME then", y.of(0, 1), 10 + 3 * day);
    }
    due("no more of them", y.undo(), -3);
    x.deed(0, 1);
    x.seen(0, 0, 0);
    x.type('a');
    x.voyages(1, 9);
    due("others leave it", x.count(7), 1);
    x.ship(5);
    due("behind a COURSE", x.count(7), 0);
  }

  private static void p12p13Now() {
    ShameAngles x = told("ship 6;fog 0 1;man 3 40;reader 1;noon 0 0;");
    due("now(0)", x.now(0), 8);
    due("now(1)", x.now(1), 6);
    due("now(2)", x.now(2), 6);
    due("now(3)", x.now(3), 1);
    due("of(0, 0)", x.of(0, 0), 3);
    due("of(0, 1)", x.of(0, 1), 39);
    for (int k : new int[] {-1, 4, MIN, MAX}) {
      bad("now(" + k + ")", x, all(x), x.now(k));
    }
    int[][] not = {{-1, 0}, {1, 0}, {0, -1}, {0, 2}, {MAX, 0}, {0, MIN}};
    for (int[] n : not) {
      bad("of(" + n[0] + ", " + n[1] + ")", x, all(x), x.of(n[0], n[1]));
    }
  }

  private static int angle(int kind, int shame, int day) {
    ShameAngles x = new ShameAngles();
    for (int d = 0; d < 6; d++) {
      x.fog(d, 1);
    }
    x.man(kind, shame);
    x.reader(0);
    for (int d = 0; d < day; d++) {
      x.noon(0, 0);
    }
    return x.angle(0);
  }

  private static void p14Angle() {
    int[][] rows = {
      {0, 0, 0, 0}, {0, 90, 1, 90}, {1, 0, 0, 5}, {1, 84, 0, 89}, {1, 85, 0, 90}, {1, 86, 0, 90},
      {2, 9, 0, 0}, {2, 10, 0, 0}, {2, 11, 0, 1}, {2, 90, 0, 80}, {3, 4, 0, 90}, {3, 4, 1, 9}, {3, 4, 6, 9},
      {3, 4, 7, 90}, {3, 4, 8, 9}, {3, 88, 1, 90}, {4, 0, 0, 0}, {4, 1, 0, 2}, {4, 2, 0, 3}, {4, 3, 0, 5},
      {4, 59, 0, 89}, {4, 60, 0, 90}, {4, 61, 0, 90}, {5, 12, 0, 0}, {5, 13, 0, 1}, {5, 15, 0, 1},
      {5, 16, 0, 2}, {5, 90, 0, 26}, {5, 0, 0, 0},
    };
    for (int[] n : rows) {
      due("ANGLE of KIND " + n[0] + ", SHAME " + n[1] + ", DAY " + n[2], angle(n[0], n[1], n[2]), n[3]);
    }
    ShameAngles x = told("ship 5;man 0 9;");
    for (int i : new int[] {-1, 1, MIN, MAX}) {
      bad("angle(" + i + ")", x, all(x), x.angle(i));
    }
  }

  private static void p15Reads() {
    // on DAY 0 and, behind one NOON in FOG, on DAY 1
    int[][] rows = {
      {0, 0, 0, 0}, {0, 90, 90, 90}, {1, 0, 2, 2}, {1, 90, 92, 92}, {2, 2, 0, 0}, {2, 3, 0, 0}, {2, 4, 1, 1},
      {3, 0, 2, 2}, {3, 29, 31, 31}, {3, 30, 33, 33}, {3, 59, 62, 62}, {3, 60, 64, 64}, {3, 90, 95, 95},
      {4, 9, 0, 0}, {4, 10, 10, 10}, {4, 89, 80, 80}, {4, 90, 90, 90}, {5, 2, 0, 0}, {5, 3, 0, 0}, {5, 4, 1, 0},
      {5, 5, 2, 1}, {5, 90, 87, 86},
    };
    for (int[] n : rows) {
      ShameAngles x = new ShameAngles();
      x.fog(0, 1);
      x.man(0, n[1]);
      x.reader(n[0]);
      due("KIND " + n[0] + " of " + n[1] + " on DAY 0, in FOG", x.reads(0, 0), n[2]);
      x.noon(0, 0);
      due("KIND " + n[0] + " of " + n[1] + " on DAY 1", x.reads(0, 0), n[3]);
    }
    ShameAngles x = told("ship 5;man 0 9;reader 0;");
    int[][] not = {{-1, 0}, {1, 0}, {0, -1}, {0, 1}, {MIN, 0}, {0, MAX}};
    for (int[] n : not) {
      bad("reads(" + n[0] + ", " + n[1] + ")", x, all(x), x.reads(n[0], n[1]));
    }
  }

  private static void p16Error() {
    ShameAngles x = told("ship 5;fog 0 1;man 0 1;man 0 29;man 4 60;reader 2;reader 3;");
    due("nobody", x.error(0, 0), 0);
    due("1, READ as 0", x.error(1, 0), -1);
    due("INDEX of all", x.error(7, 0), -7);
    due("DIP of all", x.error(7, 1), 9);
    due("DIP of two", x.error(5, 1), 7);
    x.noon(0, 0);
    due("in FOG", x.error(7, 0), 0);
    int[][] not = {{-1, 0}, {8, 0}, {0, -1}, {0, 2}, {MIN, 0}, {MAX, 0}, {0, MAX}};
    for (int[] n : not) {
      refused("error(" + n[0] + ", " + n[1] + ")", x, all(x), 0, x.error(n[0], n[1]), -1000);
    }
  }

  private static void p17p18Off() {
    ShameAngles x = told("ship 9;man 0 90;man 0 90;man 0 90;man 0 90;man 0 90;man 0 90;reader 3;reader 2;");
    due("off at first", x.off(), 0);
    due("then(63, 0, 0)", x.then(63, 0, 0), 0);
    due("then(63, 0, 1)", x.then(63, 0, 1), 30);
    // 89 and less are READ 4 more: 24 a NOON
    due("then(63, 0, 2), going round", x.then(63, 0, 2), -46);
    due("then(63, 1, 2)", x.then(63, 1, 2), -36);
    due("then(63, 1, 3), going round", x.then(63, 1, 3), 46);
    due("then(0, 0, 60)", x.then(0, 0, 60), 0);
    x.noon(63, 1);
    due("off", x.off(), -18);
    due("nothing is changed", x.count(2), 1);
    ShameAngles y = told("ship 0;man 0 50;man 0 50;man 0 50;man 0 50;man 0 50;reader 1;");
    due("50 as -50", y.then(31, 0, 5), -50);
    due("40", y.then(31, 0, 4), 40);
    ShameAngles z = told("ship 5;fog 1 0 1;man 0 50;reader 1;");
    due("FOG on the way", z.then(1, 0, 6), 8);
    int[][] not = {{-1, 0, 0}, {64, 0, 0}, {0, 2, 0}, {0, -1, 0}, {0, 0, -1}, {0, 0, 61}, {MAX, 0, 0}, {0, 0, MAX}};
    for (int[] n : not) {
      refused("then(" + n[0] + ", " + n[1] + ", " + n[2] + ")", x, all(x), 0, x.then(n[0], n[1], n[2]), -1000);
    }
  }

  private static void p19When() {
    ShameAngles x = told("ship 5;fog 0 1;man 0 10;man 3 0;man 5 0;man 2 90;");
    due("today", x.when(0, 10), 0);
    due("tomorrow, 13", x.when(0, 11), 1);
    due("behind the FOG of DAY 1, 16", x.when(0, 14), 3);
    due("a COOK at once", x.when(1, 90), 0);
    due("a SAINT never", x.when(3, 81), -1);
    // 76 and more is there behind 26 clear DAYS; 1, 7, 13, 19, 25 are of FOG
    due("an ADMIRAL, 78 of SHAME", x.when(2, 22), 31);
    x = told("ship 5;fog 1 1 1 1 1 0;man 0 63;man 0 60;man 3 10;reader 0;noon 0;");
    // clear are DAYS 5, 11, .., 59 alone: ten of them, each 3 more
    due("63 and 27, behind DAY 53", x.when(0, 90), 53);
    due("60 and 30, behind DAY 59: at last on the 60th", x.when(1, 90), 59);
    due("the COOK on DAY 7", x.when(2, 80), 6);
    x = told("ship 5;fog 1 1 1 1 1 0;man 0 60;");
    due("on the 60th", x.when(0, 90), 60);
    x = told("ship 5;fog 1 1 1 1 1 0;man 0 59;");
    due("not on the 60th", x.when(0, 90), -1);
    int[][] not = {{-1, 1}, {1, 1}, {0, 0}, {0, 91}, {MAX, 1}, {0, MIN}};
    for (int[] n : not) {
      bad("when(" + n[0] + ", " + n[1] + ")", x, all(x), x.when(n[0], n[1]));
    }
  }

  private static void p20p21Best() {
    ShameAngles x = told("ship 5;fog 0 1;man 0 9;man 0 14;man 0 23;man 0 14;man 0 0;reader 4;reader 1;");
    // SILVERED: 9, 4, 3, 4, 0 less
    due("best of none", x.best(0, 0, 0), 0);
    due("best of one", x.best(1, 0, 0), 16);
    due("how far", x.best(1, 0, 1), 0);
    due("best of three, of like ones the least", x.best(3, 0, 0), 2 + 4 + 16);
    due("how far", x.best(3, 0, 1), 7);
    due("best of all", x.best(5, 0, 0), 31);
    due("how far", x.best(5, 0, 1), 20);
    due("SQUINT: all alike", x.best(2, 1, 0), 3);
    due("fewest of 0", x.fewest(0, 0), 0);
    due("fewest of -4", x.fewest(-4, 0), 2);
    due("fewest of -7", x.fewest(-7, 0), 6);
    due("fewest of -11", x.fewest(-11, 0), 2 + 4 + 8);
    due("fewest of -13", x.fewest(-13, 0), 3);
    due("fewest of -1", x.fewest(-1, 0), -1);
    due("fewest of 6", x.fewest(6, 1), 7);
    due("fewest of 99", x.fewest(99, 1), -1);
    due("fewest of -99", x.fewest(-99, 1), -1);
    ShameAngles y = told("ship 0;man 0 6;man 0 3;man 0 3;man 0 9;reader 4;");
    due("the fewest, not the least", y.fewest(-9, 0), 8);
    int[][] not = {{-1, 0, 0}, {6, 0, 0}, {0, -1, 0}, {0, 2, 0}, {0, 0, -1}, {0, 0, 2}, {MAX, 0, 0}, {MIN, 0, 0}};
    for (int[] n : not) {
      bad("best(" + n[0] + ", " + n[1] + ", " + n[2] + ")", x, all(x), x.best(n[0], n[1], n[2]));
    }
    int[][] none = {{-100, 0}, {100, 0}, {0, -1}, {0, 2}, {MIN, 0}};
    for (int[] n : none) {
      bad("fewest(" + n[0] + ", " + n[1] + ")", x, all(x), x.fewest(n[0], n[1]));
    }
    x.noon(0, 0);
    due("fewest of -4 in FOG", x.fewest(-4, 0), -1);
    due("fewest of 0 in FOG", x.fewest(0, 0), 0);
    due("best in FOG", x.best(4, 0, 0), 15);
    due("how far in FOG", x.best(4, 0, 1), 0);
  }

  private static void p22Cape() {
    ShameAngles x = told("ship 5;fog 0 1;man 0 50;man 0 29;reader 1;reader 3;reader 0;");
    due("here", x.cape(0, 0, -1), 0);
    due("here, row", x.cape(0, 0, 0), -5);
    due("one NOON", x.cape(7, 0, -1), 1);
    due("whom", x.cape(7, 0, 0), 0);
    due("not so many", x.cape(7, 0, 1), -5);
    due("not so many", x.cape(7, 0, MAX), -5);
    due("nobody", x.cape(5, 0, 0), -1);
    // DIP: 50 is READ 3 more, 29 is 2 more; DAY 1 is in FOG; on DAY 2, 29 (or 32) 2 (or 3) more
    due("3 on DAY 0", x.cape(8, 1, 0), 0);
    due("2 on DAY 0", x.cape(7, 1, 0), 1);
    due("two NOONS, one in FOG", x.cape(13, 1, -1), 2);
    due("the first of them", x.cape(13, 1, 0), 0);
    due("the second of them, rising from nobody", x.cape(13, 1, 1), -1);
    due("three NOONS", x.cape(18, 1, -1), 3);
    due("first row, 0th", x.cape(18, 1, 0), -1);
    due("first row, 1st", x.cape(18, 1, 1), -1);
    due("first row, 2nd: 53 is READ 3 more", x.cape(18, 1, 2), 0);
    due("TRUE never", x.cape(6, 2, -1), -6);
    due("TRUE never, i-th", x.cape(6, 2, 77), -6);
    due("TRUE behind five", x.cape(25, 2, -1), 5);
    due("TRUE behind five, nobody", x.cape(25, 2, 4), -1);
    due("TRUE behind six", x.cape(30, 2, -1), -6);
    due("nothing is changed", x.count(2), 0);
    ShameAngles y = told("ship 0;man 0 9;man 0 19;reader 4;");
    due("back, going round", y.cape(91, 0, -1), 1);
    due("back, going round", y.cape(83, 0, -1), 2);
    due("the first row: 9 less, and 8", y.cape(83, 0, 0), 0);
    due("the first row", y.cape(83, 0, 1), 0);
    int[][] not = {{-1, 0, -1}, {100, 0, -1}, {0, -1, -1}, {0, 3, -1}, {0, 0, -2}, {MIN, 0, 0}, {0, MAX, 0},
        {0, 0, MIN}};
    for (int[] n : not) {
      refused("cape(" + n[0] + ", " + n[1] + ", " + n[2] + ")", x, all(x), 0, x.cape(n[0], n[1], n[2]), -10);
    }
    long bads = x.status(0);
    x.cape(6, 2, -1);
    x.cape(0, 0, 0);
    due("none, not so many are not BAD", x.status(0), bads);
  }

  private static void p23p24Watch() {
    ShameAngles x = new ShameAngles();
    due("without MEN", x.watch(-1), 1);
    refused("watch(0) without MEN", x, all(x), 0, x.watch(0), -10);
    x.man(0, 10);
    due("without READERS", x.watch(-1), 0);
    due("without READERS, 0th", x.watch(0), -6);
    x.man(0, 12);
    x.reader(1);
    due("12, 14", x.watch(-1), 1);
    x.reader(0);
    // 12 or 10 of the first, 14 or 12 of the second: not 12 and 12
    due("three ways", x.watch(-1), 3);
    due("first way, 0th", x.watch(0), 0);
    due("first way, 1st", x.watch(1), 0);
    x.man(0, 10);
    // the third one as the first one: they are apart as 12, 10 or 10, 12; then the second is at 14
    due("two ways", x.watch(-1), 2);
    due("first way, 0th", x.watch(0), 0);
    due("first way, 1st", x.watch(1), 0);
    due("first way, 2nd", x.watch(2), 1);
    due("MUTINY of like ones", x.mutiny(0), 5);
    x.man(0, 10);
    due("no way", x.watch(-1), 0);
    due("no way, 3rd", x.watch(3), -6);
    for (int i : new int[] {-2, 4, MIN, MAX}) {
      refused("watch(" + i + ")", x, all(x), 0, x.watch(i), -10);
    }
    due("MUTINY of three", x.mutiny(1), 1 + 4 + 8);
    x = told("ship 0;man 0 1;man 0 11;man 0 2;man 0 19;man 0 5;reader 4;reader 0;fog 1;");
    due("SILVERED: three at 0, in FOG too", x.mutiny(0), 1 + 4 + 16);
    due("TRUE: each alone, the least MAN", x.mutiny(1), 1);
    x = told("ship 0;man 0 1;man 0 11;man 0 12;man 0 2;reader 4;");
    due("two and two, the least MAN", x.mutiny(0), 1 + 8);
    x = told("ship 0;reader 0;");
    due("MUTINY without MEN", x.mutiny(0), 0);
    for (int r : new int[] {-1, 1, MIN, MAX}) {
      bad("mutiny(" + r + ")", x, all(x), x.mutiny(r));
    }
  }

  private static void p25p26Began() {
    ShameAngles x = told("ship 5;fog 0 1;man 0 50;man 1 50;man 3 0;reader 0;");
    due("none SEEN", x.began(0, 0), 91);
    due("seen(0, 0, 90)", x.seen(0, 0, 90), 1);
    due("just 90", x.began(0, 1), 90);
    due("of another one", x.began(1, 0), 91);
    due("seen(1, 3, 90)", x.seen(1, 3, 90), 2);
    // DAYS 0 and 2 are clear: 6 more, and 5 as a LIAR
    due("least of the LIAR", x.began(1, 1), 79);
    due("greatest of the LIAR", x.began(1, 2), 90);
    due("how many of the LIAR", x.began(1, 0), 12);
    due("seen(1, 8, 89)", x.seen(1, 8, 89), 3);
    due("none fits", x.began(1, 0), 0);
    due("none fits, the least", x.began(1, 1), -1);
    due("none fits, the greatest", x.began(1, 2), -1);
    due("seen(2, 7, 90)", x.seen(2, 7, 90), 4);
    due("a COOK on DAY 7", x.began(2, 0), 91);
    due("seen(2, 8, 30)", x.seen(2, 8, 30), 5);
    // DAYS 0, 2, 3, 4, 5, 6 are clear, 1 and 7 are not
    due("a COOK on DAY 8", x.began(2, 2), 7);
    due("a COOK on DAY 8, how many", x.began(2, 0), 1);
    due("seen(0, 99, 0)", x.seen(0, 99, 0), 6);
    refused("a 7th SEEN", x, all(x), 2, x.seen(0, 0, 0), -4);
    int[][] not = {{-1, 0, 0}, {3, 0, 0}, {0, -1, 0}, {0, 100, 0}, {0, 0, -1}, {0, 0, 91}, {MAX, 0, 0}};
    for (int[] n : not) {
      bad("seen(" + n[0] + ", " + n[1] + ", " + n[2] + ")", x, all(x), x.seen(n[0], n[1], n[2]));
    }
    int[][] none = {{-1, 0}, {3, 0}, {0, -1}, {0, 3}, {MIN, 0}, {0, MAX}};
    for (int[] n : none) {
      bad("began(" + n[0] + ", " + n[1] + ")", x, all(x), x.began(n[0], n[1]));
    }
    ShameAngles y = told("ship 5;man 0 50;man 0 50;");
    y.seen(0, 0, 0);
    y.seen(1, 1, 3);
    for (int i = 0; i < 2; i++) {
      due("just 0", y.began(i, 0), 1);
      due("just 0, the least", y.began(i, 1), 0);
      due("just 0, the greatest", y.began(i, 2), 0);
    }
    x.forget(0);
    x.noon(1, 0);
    x.deed(0, 9);
    x.seen(0, 2, 33);
    due("noons and deeds of his do not count", x.began(0, 1), 30);
    x.fog(1, 0);
    due("FOG as told now", x.began(0, 1), 27);
  }

  private static void p27p30Notes() {
    ShameAngles x = told("ship 5;man 0 50;man 1 50;reader 0;");
    due("IS of no NOTES", x.is(1), 63);
    due("LOOK of all", x.look(1), 2);
    due("note(0, 40, 1, 45)", x.note(0, 40, 1, 45), 1);
    due("LIAR or COOK", x.is(0), 2 + 8);
    due("of another one", x.is(1), 63);
    // they differ on DAYS 0 and 7 alone, and there but at 90 (a SHAME of 85 and more)
    due("LOOK at LIAR or COOK", x.look(0), 0);
    due("note(0, 80, 7, 85)", x.note(0, 80, 7, 85), 2);
    due("LIAR", x.is(0), 2);
    due("LOOK at one KIND", x.look(0), 0);
    due("note(0, 0, 99, 90)", x.note(0, 0, 99, 90), 3);
    due("no KIND", x.is(0), 0);
    due("LOOK at no KIND", x.look(0), -1);
    due("note(1, 0, 1, 0)", x.note(1, 0, 1, 0), 4);
    due("PLAIN, SAINT, BOSUN or ADMIRAL", x.is(1), 1 + 4 + 16 + 32);
    // at 20: 20, 10, 30, 3
    due("LOOK at these", x.look(1), 2);
    due("note(1, 12, 0, 18)", x.note(1, 12, 0, 18), 5);
    due("BOSUN", x.is(1), 16);
    due("note(1, 90, 0, 90)", x.note(1, 90, 0, 90), 6);
    refused("a 7th NOTE", x, all(x), 2, x.note(0, 0, 0, 0), -4);
    int[][] not = {{-1, 0, 0, 0}, {2, 0, 0, 0}, {0, -1, 0, 0}, {0, 91, 0, 0}, {0, 0, -1, 0}, {0, 0, 100, 0},
        {0, 0, 0, -1}, {0, 0, 0, 91}};
    for (int[] n : not) {
      bad("note(" + n[0] + ", " + n[1] + ", " + n[2] + ", " + n[3] + ")", x, all(x),
          x.note(n[0], n[1], n[2], n[3]));
    }
    for (int i : new int[] {-1, 2, MIN, MAX}) {
      bad("is(" + i + ")", x, all(x), x.is(i));
      bad("look(" + i + ")", x, all(x), x.look(i));
    }
    x.forget(1);
    x.note(0, 85, 0, 90);
    due("LIAR, COOK or BOSUN", x.is(0), 2 + 8 + 16);
    // on DAY 0: 5, 90, 0 at 0
    due("LOOK at LIAR, COOK or BOSUN", x.look(0), 0);
    x.note(0, 90, 1, 90);
    due("all of them still", x.is(0), 2 + 8 + 16);
    x.forget(1);
    x.note(0, 10, 1, 15);
    due("LIAR, COOK or BOSUN by DAY 1", x.is(0), 2 + 8 + 16);
    x.note(0, 20, 1, 30);
    due("BOSUN", x.is(0), 16);
  }

  private static void p28p33Marks() {
    ShameAngles x = told("ship 5;man 0 50;reader 0;reader 0;");
    due("WHAT of no MARKS", x.kinds(0), 63);
    // 31: 31, 33, 28, 34, 30 and on DAY 1 27; on DAY 0 28 twice
    due("ASK of all", x.ask(0), 131);
    due("mark(0, 40, 0, 37)", x.mark(0, 40, 0, 37), 1);
    due("INDEX or TIRED", x.kinds(0), 4 + 32);
    due("of another one", x.kinds(1), 63);
    // on DAY 1 from 4 on: 1 and 0
    due("ASK of INDEX or TIRED", x.ask(0), 104);
    due("mark(0, 40, 1, 36)", x.mark(0, 40, 1, 36), 2);
    due("TIRED", x.kinds(0), 32);
    due("ASK of one KIND", x.ask(0), 0);
    due("mark(0, 0, 99, 99)", x.mark(0, 0, 99, 99), 3);
    due("no KIND", x.kinds(0), 0);
    due("ASK of no KIND", x.ask(0), -1);
    due("mark(1, 20, 1, 22)", x.mark(1, 20, 1, 22), 4);
    due("SQUINT or DIP", x.kinds(1), 2 + 8);
    due("ASK of SQUINT or DIP", x.ask(1), 30);
    due("mark(1, 90, 1, 95)", x.mark(1, 90, 1, 95), 5);
    due("DIP", x.kinds(1), 8);
    due("mark(1, 0, 0, 2)", x.mark(1, 0, 0, 2), 6);
    refused("a 7th MARK", x, all(x), 2, x.mark(0, 0, 0, 0), -4);
    int[][] not = {{-1, 0, 0, 0}, {2, 0, 0, 0}, {0, -1, 0, 0}, {0, 91, 0, 0}, {0, 0, -1, 0}, {0, 0, 100, 0},
        {0, 0, 0, -1}, {0, 0, 0, 100}};
    for (int[] n : not) {
      bad("mark(" + n[0] + ", " + n[1] + ", " + n[2] + ", " + n[3] + ")", x, all(x),
          x.mark(n[0], n[1], n[2], n[3]));
    }
    for (int r : new int[] {-1, 2, MIN, MAX}) {
      bad("kinds(" + r + ")", x, all(x), x.kinds(r));
      bad("ask(" + r + ")", x, all(x), x.ask(r));
    }
  }

  private static void p29Forget() {
    ShameAngles x = told("ship 5;man 0 50;reader 0;");
    x.seen(0, 0, 1);
    x.note(0, 0, 0, 1);
    x.note(0, 0, 0, 2);
    x.mark(0, 0, 0, 1);
    x.mark(0, 0, 0, 2);
    x.mark(0, 0, 0, 3);
    for (int k : new int[] {-1, 3, MIN, MAX}) {
      bad("forget(" + k + ")", x, all(x), x.forget(k));
    }
    due("forget(1)", x.forget(1), 2);
    due("SEEN stay", x.count(4), 1);
    due("NOTES", x.count(5), 0);
    due("MARKS stay", x.count(6), 3);
    due("forget(2)", x.forget(2), 3);
    due("MARKS", x.count(6), 0);
    due("forget(0)", x.forget(0), 1);
    due("forget(0) again", x.forget(0), 0);
  }

  private static void p34Officers() {
    ShameAngles x = told("ship 5;fog 0 1;man 0 9;man 0 20;man 0 20;man 0 14;reader 4;reader 2;");
    // the greatest ANGLE: 1 and 2, READ as they are; with j = 1 least off are i = 1, 2; so with j = 2
    due("four rest", x.officers(0, -1), 4);
    due("0th", x.officers(0, 0), 11);
    due("1st", x.officers(0, 1), 12);
    due("2nd", x.officers(0, 2), 21);
    due("3rd", x.officers(0, 3), 22);
    due("4th", x.officers(0, 4), -5);
    due("far beyond", x.officers(0, MAX), -5);
    // INDEX: the same one twice is measured once
    due("two rest", x.officers(1, -1), 2);
    due("0th", x.officers(1, 0), 11);
    due("1st", x.officers(1, 1), 22);
    int[][] not = {{-1, -1}, {2, -1}, {0, -2}, {0, MIN}, {MAX, 0}};
    for (int[] n : not) {
      refused("officers(" + n[0] + ", " + n[1] + ")", x, all(x), 0, x.officers(n[0], n[1]), -10);
    }
    x.noon(15, 0);
    due("in FOG any i", x.officers(1, -1), 8);
    due("in FOG, 7th", x.officers(1, 7), 32);
    x = told("ship 5;reader 0;");
    due("without MEN", x.officers(0, -1), 0);
    due("without MEN, 0th", x.officers(0, 0), -5);
  }

  private static void slips(ShameAngles x, int men, int r, int c, long above, long below) {
    due("slips(" + men + ", " + r + ", " + c + ")", x.slips(men, r, c), 1);
    due("slips(" + men + ", " + r + ", " + c + ") above", x.part(0), above);
    due("slips(" + men + ", " + r + ", " + c + ") below", x.part(1), below);
  }

  private static void p35p37Slips() {
    ShameAngles x = told("ship 5;fog 0 1;man 0 1;man 0 31;man 0 22;man 0 50;man 0 60;man 0 90;reader 4;reader 2;"
        + "reader 1;");
    slips(x, 0, 0, 7, 1, 1);
    // SILVERED: 1, 1, 2 less, 0, 0, 0
    slips(x, 1, 0, 3, 3, 10);
    slips(x, 3, 0, 5, 1, 4);
    slips(x, 4, 0, 5, 0, 1);
    slips(x, 9, 0, 5, 1, 2);
    slips(x, 57, 0, 1, 729, 2500);
    slips(x, 63, 0, 2, 48, 3125);
    slips(x, 63, 0, 0, 0, 1);
    slips(x, 48, 0, 0, 1, 1);
    slips(x, 48, 0, 10, 0, 1);
    slips(x, 3, 0, 10, 1, 1);
    slips(x, 1, 2, 5, 0, 1);
    slips(x, 63, 1, 9, 0, 1);
    slips(x, 1, 1, 4, 2, 5);
    slips(x, 1, 0, 6, 3, 5);
    int[][] not = {{-1, 0, 0}, {64, 0, 0}, {0, -1, 0}, {0, 3, 0}, {0, 0, -1}, {0, 0, 11}, {MIN, 0, 0}, {0, 0, MAX}};
    for (int[] n : not) {
      bad("slips(" + n[0] + ", " + n[1] + ", " + n[2] + ")", x, all(x), x.slips(n[0], n[1], n[2]));
    }
    due("THE FRACTION stays", x.part(0), 3);
    for (int k : new int[] {-1, 2, MIN, MAX}) {
      bad("part(" + k + ")", x, all(x), x.part(k));
    }
    x.noon(0, 0);
    slips(x, 63, 2, 5, 1, 1);
  }

  private static void p36Voyages() {
    ShameAngles x = told("ship 5;man 0 50;man 0 50;man 0 50;man 0 50;man 0 50;man 0 50;reader 1;reader 1;reader 1;");
    // whoever is measured, by whomever, is READ 2 more: 2, 4, 6, ..
    due("voyages(0, 0)", x.voyages(0, 0), 0);
    due("voyages(7, 1)", x.voyages(7, 1), 2);
    due("voyages(999999, 4)", x.voyages(999999, 4), 20);
    // 2, 4, .., 48, then -50, -48, .., -2, 0, 2, .. (as far as they are from 0)
    due("voyages(3, 25)", x.voyages(3, 25), 600 + 50);
    due("voyages(3, 26)", x.voyages(3, 26), 600 + 50 + 48);
    due("voyages(3, 60)", x.voyages(3, 60), 600 + 50 + 600 + 0 + 110);
    // SEED 0: X is 12345; by 65536: 0, so MAN 0; by 1048576: 0, so READER 0
    ShameAngles y = told("ship 5;man 0 50;reader 1;");
    due("voyages(0, 1)", y.voyages(0, 1), 2);
    // SEED 1: X is 1103527590; by 65536: 16838, MAN 2 (not there); by 1048576: 1052, READER 2
    due("voyages(1, 1)", y.voyages(1, 1), 0);
    y = told("ship 5;man 0 50;man 0 50;man 0 50;reader 1;");
    due("voyages(1, 1), no such READER", y.voyages(1, 1), 0);
    y.reader(0);
    y.reader(3);
    due("voyages(1, 1), DIP", y.voyages(1, 1), 3);
    due("nothing is changed", y.count(2) + y.now(0), 0);
    y = told("ship 5;fog 1;man 0 50;reader 1;");
    due("voyages(0, 1) in FOG", y.voyages(0, 1), 0);
    due("without anybody", new ShameAngles().voyages(77, 60), 0);
    int[][] not = {{-1, 0}, {1000000, 0}, {0, -1}, {0, 61}, {MIN, 0}, {0, MAX}};
    for (int[] n : not) {
      bad("voyages(" + n[0] + ", " + n[1] + ")", x, all(x), x.voyages(n[0], n[1]));
    }
  }

  private static void p38p39Images() {
    ShameAngles x = told("ship 8;fog 0 1;man 0 50;reader 1;");
    x.seen(0, 1, 2);
    x.note(0, 1, 2, 3);
    x.mark(0, 4, 5, 6);
    x.noon(1, 0);
    refused("from(0), none kept", x, all(x), 1, x.from(0), -3);
    for (int k : new int[] {-1, 2, MIN, MAX}) {
      bad("image(" + k + ")", x, all(x), x.image(k));
      bad("from(" + k + ")", x, all(x), x.from(k));
    }
    long was = x.digest();
    due("image(1)", x.image(1), 1);
    due("an IMAGE is none of the other", x.from(0), -3);
    x.deed(0, 40);
    x.noon(0, 0);
    x.fog(0, 1);
    x.forget(0);
    x.forget(1);
    x.forget(2);
    x.man(3, 3);
    x.reader(3);
    x.deed(0, 1);
    due("image(0)", x.image(0), 1);
    x.ship(1);
    due("from(1)", x.from(1), 1);
    due("all as it was", x.digest(), was);
    due("what may be undone too", x.undo(), 0);
    due("SHAME ahead of it", x.of(0, 1), 50);
    x.deed(0, 3);
    due("from(1) again", x.from(1), 1);
    due("the IMAGE is apart", x.digest(), was);
    due("from(0)", x.from(0), 1);
    due("MEN of it", x.count(0), 2);
    due("undo in it", x.undo(), 2);
    due("no more of it", x.undo(), -3);
    due("image(1) anew", x.image(1), 1);
    x.type('a');
    x.slips(0, 0, 0);
    x.status(9);
    long bads = x.status(0);
    due("from(1)", x.from(1), 1);
    due("THE TEXT stays", x.count(8), 1);
    due("THE FRACTION stays", x.part(0), 1);
    due("STATUS stays", x.status(0), bads);
  }

  private static void p40p41Status() {
    ShameAngles x = told("ship 8;man 0 50;man 0 7;reader 1;reader 2;noon 0 0;");
    for (int k : new int[] {-1, 3, MIN, MAX}) {
      refused("status(" + k + ")", x, all(x), 0, x.status(k), -1);
    }
    for (int k : new int[] {-1, 9, MIN, MAX}) {
      bad("count(" + k + ")", x, all(x), x.count(k));
    }
    x.undo();
    x.reader(0);
    x.reader(0);
    due("BAD", x.status(0), 8);
    due("NO", x.status(1), 1);
    due("FULL", x.status(2), 1);
    x.deed(0, 5);
    x.seen(0, 0, 0);
    x.note(0, 0, 0, 0);
    x.note(0, 0, 0, 0);
    x.mark(0, 0, 0, 0);
    x.mark(0, 0, 0, 0);
    x.mark(0, 0, 0, 0);
    x.type('a');
    x.type('b');
    int[] want = {2, 3, 1, 49 + 10 + 5, 1, 2, 3, 1, 2};
    for (int k = 0; k <= 8; k++) {
      due("count(" + k + ")", x.count(k), want[k]);
    }
  }

  private static long hash(long... values) {
    long h = 1543;
    for (long v : values) {
      h = 31 * h + v;
    }
    return h;
  }

  private static void p42Digest() {
    ShameAngles x = new ShameAngles();
    due("digest at first", x.digest(), hash(0, 0, 0, 0, 0, 0, 0, 0, 0, 0, 0, 5, 0, 0, 0, 0, 0, 0, 0, 1));
    x = told("ship 8;fog 0 0 1;man 0 50;man 4 7;reader 1;reader 2;noon 0 0;");
    x.deed(0, 5);
    x.seen(1, 9, 8);
    x.note(0, 11, 12, 13);
    x.mark(1, 14, 15, 16);
    x.mark(0, 17, 18, 19);
    x.type('a');
    x.slips(1, 1, 3);
    x.slips(0, 1, 3);
    due("digest", x.digest(), hash(2, 2, 1, 64, 1, 1, 2, 1, 1, 10, 8, 8, 0, 0, 1, 0, 0, 0, 0, 54, 4, 10, 1, 2,
        1, 9, 8, 0, 11, 12, 13, 1, 14, 15, 16, 0, 17, 18, 19, 1, 1));
    due("digest again", x.digest(), x.digest());
  }

  private static void run(String name) {
    promise = "promise " + name;
  }

  public static void main(String[] args) {
    run("1");
    p1New();
    run("2");
    p2Ship();
    run("3");
    p3Fog();
    run("4");
    p4Man();
    run("5");
    p5Reader();
    run("6, 7");
    p6p7Text();
    run("8");
    p8ReadFaults();
    p8Read();
    run("9");
    p9Noon();
    run("10");
    p10Deed();
    run("11");
    p11Undo();
    run("12, 13");
    p12p13Now();
    run("14");
    p14Angle();
    run("15");
    p15Reads();
    run("16");
    p16Error();
    run("17, 18");
    p17p18Off();
    run("19");
    p19When();
    run("20, 21");
    p20p21Best();
    run("22");
    p22Cape();
    run("23, 24");
    p23p24Watch();
    run("25, 26");
    p25p26Began();
    run("27, 30, 31");
    p27p30Notes();
    run("28, 32, 33");
    p28p33Marks();
    run("29");
    p29Forget();
    run("34");
    p34Officers();
    run("35, 37");
    p35p37Slips();
    run("36");
    p36Voyages();
    run("38, 39");
    p38p39Images();
    run("40, 41");
    p40p41Status();
    run("42");
    p42Digest();
    System.out.println(wrong == 0 ? "all promises hold" : wrong + " answers are not as due");
    if (wrong != 0) System.exit(1);
  }
}
