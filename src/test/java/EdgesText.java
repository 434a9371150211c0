/** Edges of THE TEXT and of reading it (promises 6 to 8). */
public final class EdgesText {
  private static final String SIX_MEN = "man 0 0;man 0 0;man 0 0;man 0 0;man 0 0;man 0 0;";

  private static void due(String call, long got, long want) {
    Edge.due(call, got, want);
  }

  /** It is read, of so many ITEMS. */
  private static ShameAngles reads(String text, int items) {
    ShameAngles x = Edge.type(new ShameAngles(), text);
    due("read of \"" + text + "\"", x.read(), items);
    return x;
  }

  /** A FAULT at this place: all stays, STATUS too. */
  private static void fault(String text, int at) {
    Edge.leaves("read of \"" + text + "\"", () -> Edge.type(Edge.rich(4, 2), text), ShameAngles::read, -10 - at,
        Edge.NOTHING);
  }

  /** A FAULT at the end of the first of these, with the second one there. */
  private static void faultBehind(String right, String wrong) {
    fault(right + wrong, right.length());
  }

  /** Each number of an ITEM: those taken, and those that are not. */
  private static void numbers(String ahead, String behind, int low, int high) {
    for (int n = 0; n <= 99; n++) {
      String text = ahead + n + behind;
      if (n >= low && n <= high) {
        due("read of \"" + text + "\" without FAULT", Edge.type(new ShameAngles(), text).read() > 0 ? 1 : 0, 1);
      } else {
        due("read of \"" + text + "\"", Edge.type(new ShameAngles(), text).read(), -10 - ahead.length());
      }
    }
    faultBehind(ahead, "100" + behind);
    faultBehind(ahead, "000" + behind);
    faultBehind(ahead, "-1" + behind);
    faultBehind(ahead, "x" + behind);
  }

  // ---- type, clear

  private static void bytesFromNoneToFull() {
    ShameAngles x = new ShameAngles();
    due("clear of none", x.clear(), 0);
    due("type(0)", x.type(0), 1);
    due("clear of one", x.clear(), 1);
    for (int n = 1; n <= 150; n++) {
      due("type", x.type(n % 128), n);
      due("count(8)", x.count(8), n);
    }
    due("a 151st", x.type(97), -4);
    due("count(8)", x.count(8), 150);
    due("FULL", x.status(2), 1);
    due("clear of all", x.clear(), 150);
    due("clear again", x.clear(), 0);
    due("count(8)", x.count(8), 0);
    due("type(127)", x.type(127), 1);
    due("type(128)", x.type(128), -2);
    due("type(-1)", x.type(-1), -2);
    due("count(8)", x.count(8), 1);
  }

  private static void clearLeavesAllElse() {
    ShameAngles x = Edge.rich(3, 2);
    long[] was = new long[8];
    for (int k = 0; k < 8; k++) was[k] = x.count(k);
    due("clear", x.clear(), 50);
    for (int k = 0; k < 8; k++) due("count(" + k + ")", x.count(k), was[k]);
    due("read of the empty one", x.read(), -10);
    due("IMAGE 0", x.from(0), 1);
  }

  private static void textOf150() {
    String noons = "ship 5;reader 0;" + "noon 0;".repeat(19);
    String all = noons + "p";
    due("its length", all.length(), 150);
    fault(all, 149);
    reads(noons + " ", 21);
    reads("ship 5;reader 0;" + "noon 0;".repeat(18) + "noon 00;", 21);
    fault("ship 5;reader 0;" + "noon 0;".repeat(18) + "noon  00", 150);
    fault(" ".repeat(150), 150);
    fault("a".repeat(150), 0);
    fault("1".repeat(150), 0);
    fault(" ".repeat(149) + ";", 149);
    reads(" ".repeat(144) + "ship5;", 1);
    fault(" ".repeat(145) + "ship5", 150);
    ShameAngles x = Edge.type(new ShameAngles(), " ".repeat(144) + "ship 5;");
    due("the 151st is not there", x.read(), -160);
  }

  // ---- ITEMS

  private static void shipOnceFirstOfAll() {
    fault("fog 1;ship 5;", 0);
    fault("man 0 0;ship 5;", 0);
    fault("reader 0;", 0);
    fault("deed 0 1;", 0);
    fault("noon 0;", 0);
    fault(" x ship 5;", 1);
    fault("0 ship 5;", 0);
    fault(";ship 5;", 0);
    fault("ship 5;ship 5;", 7);
    fault("ship 5;fog 1;ship 5;", 13);
    fault("ship 5;ship", 7);
    fault("ship ship 5;", 5);
    fault("ship;ship 5;", 4);
  }

  private static void shipCourse() {
    numbers("ship ", ";", 0, 9);
    for (int c = 0; c <= 9; c++) {
      due("COURSE", reads("ship " + c + ";", 1).now(2), c);
      due("COURSE", reads("ship 0" + c + ";", 1).now(2), c);
    }
    fault("ship 5 5;", 7);
    fault("ship 5 x;", 7);
  }

  private static void fogOneToSix() {
    fault("ship 5;fog;", 10);
    fault("ship 5;fog ;", 11);
    fault("ship 5;fog", 10);
    for (int n = 1; n <= 6; n++) {
      ShameAngles x = reads("ship 5;fog" + " 1".repeat(n) + ";", 2);
      for (int d = 0; d <= 5; d++) due("FOG of " + d + " of " + n + " told", x.fog(d, 0), d < n ? 1 : 0);
      x = reads("ship 5;fog" + " 0".repeat(n - 1) + " 1;", 2);
      for (int d = 0; d <= 5; d++) due("FOG of " + d + ", the last of " + n, x.fog(d, 0), d == n - 1 ? 1 : 0);
      faultBehind("ship 5;fog" + " 1".repeat(n) + " ", "x;");
      faultBehind("ship 5;fog" + " 1".repeat(n - 1) + " ", "2;");
      faultBehind("ship 5;fog" + " 1".repeat(n), "");
    }
    faultBehind("ship 5;fog 0 0 0 0 0 0 ", "0;");
    faultBehind("ship 5;fog 1 1 1 1 1 1 ", "1;");
    faultBehind("ship 5;fog 1 1 1 1 1 1 ", "2;");
    faultBehind("ship 5;fog 1 1 1 1 1 1 ", "man 0 0;");
    numbers("ship 5;fog ", ";", 0, 1);
    numbers("ship 5;fog 1 1 1 1 1 ", ";", 0, 1);
    ShameAngles x = reads("ship 5;fog 01 00 01;fog 0;", 3);
    int[] want = {0, 0, 1, 0, 0, 0};
    for (int d = 0; d <= 5; d++) due("FOG of " + d + ", told twice", x.fog(d, 0), want[d]);
  }

  private static void manKindShame() {
    numbers("ship 5;man ", " 0;", 0, 5);
    numbers("ship 5;man 0 ", ";", 0, 90);
    fault("ship 5;man;", 10);
    fault("ship 5;man 0;", 12);
    fault("ship 5;man 0 0 0;", 15);
    fault("ship 5;man 0 0 x;", 15);
    fault("ship 5;man 0", 12);
    fault("ship 5;man 0 0", 14);
    fault("ship 5;man liar 0;", 11);
    ShameAngles x = reads("ship 5;man 5 90;man 0 0;", 3);
    due("KIND", x.of(0, 0), 5);
    due("SHAME", x.of(0, 1), 90);
    due("KIND", x.of(1, 0), 0);
    due("SHAME", x.of(1, 1), 0);
  }

  private static void seventhMan() {
    due("six", reads("ship 5;" + SIX_MEN, 7).count(0), 6);
    faultBehind("ship 5;" + SIX_MEN, "man 0 0;");
    faultBehind("ship 5;" + SIX_MEN, "man 6 0;");
    faultBehind("ship 5;" + SIX_MEN, "man;");
    faultBehind("ship 5;" + SIX_MEN, "man");
    faultBehind("ship 5;" + SIX_MEN + "fog 1; ", "man 0 0;");
    faultBehind("ship 5;" + SIX_MEN, "mans 0 0;");
  }

  private static void readerKind() {
    numbers("ship 5;reader ", ";", 0, 5);
    fault("ship 5;reader;", 13);
    fault("ship 5;reader 0 0;", 16);
    fault("ship 5;reader 0", 15);
    ShameAngles x = reads("ship 5;man 0 33;reader 5;reader 0;reader 3;", 5);
    int[] want = {30, 33, 36};
    for (int r = 0; r <= 2; r++) due("reads(0, " + r + ")", x.reads(0, r), want[r]);
  }

  private static void fourthReader() {
    String three = "ship 5;reader 0;reader 0;reader 0;";
    due("three", reads(three, 4).count(1), 3);
    faultBehind(three, "reader 0;");
    faultBehind(three, "reader 6;");
    faultBehind(three, "reader;");
    faultBehind(three, "reader");
    due("men may come still", reads(three + "man 0 0;", 5).count(0), 1);
  }

  private static void deedItem() {
    numbers("ship 5;man 0 0;deed 0 ", ";", 1, 90);
    numbers("ship 5;man 0 0;deed ", " 1;", 0, 0);
    numbers("ship 5;" + SIX_MEN + "deed ", " 1;", 0, 5);
    fault("ship 5;deed 0 1;", 12);
    fault("ship 5;deed 0 1;man 0 0;", 12);
    fault("ship 5;deed;", 11);
    fault("ship 5;man 0 0;deed 0;", 21);
    fault("ship 5;man 0 0;deed 0 1 1;", 24);
    fault("ship 5;man 0 0;deed 0 1", 23);
    int[][] rows = {{0, 1, 1}, {0, 90, 90}, {89, 1, 90}, {90, 90, 90}, {1, 88, 89}};
    for (int[] n : rows) {
      ShameAngles x = reads("ship 5;man 0 7;man 0 " + n[0] + ";deed 1 " + n[1] + ";", 4);
      due("SHAME behind a DEED", x.of(1, 1), n[2]);
      due("another one's", x.of(0, 1), 7);
    }
  }

  private static void noonReader() {
    numbers("ship 5;reader 0;noon ", ";", 0, 0);
    numbers("ship 5;reader 0;reader 0;reader 0;noon ", ";", 0, 2);
    fault("ship 5;noon 0;", 12);
    fault("ship 5;noon;", 11);
    fault("ship 5;noon", 11);
    fault("ship 5;noon 0;reader 0;", 12);
    fault("ship 5;reader 0;noon 0", 22);
    for (int r = 0; r <= 2; r++) {
      ShameAngles x = reads("ship 0;man 0 50;reader 0;reader 1;reader 3;noon " + r + " 0;", 6);
      due("PLACE, by READER " + r, x.now(0), new int[] {0, 2, 3}[r]);
    }
  }

  private static void noonMen() {
    String six = "ship 0;reader 4;man 0 1;man 0 2;man 0 3;man 0 4;man 0 5;man 0 6;";
    due("nobody", reads(six + "noon 0;", 9).now(0), 0);
    for (int i = 0; i <= 5; i++) {
      ShameAngles x = reads(six + "noon 0 " + i + ";", 9);
      due("PLACE, MAN " + i + " measured", x.now(0), 99 - i);
      for (int j = 0; j <= 5; j++) due("SHAME of " + j, x.of(j, 1), j == i ? j : j + 4);
      faultBehind(six + "noon 0 " + i + " ", i + ";");
      faultBehind(six + "noon 0 " + i + " ", "0" + i + ";");
      faultBehind(six + "noon 0 " + i + " " + (i + 1) % 6 + " ", i + ";");
    }
    due("all, in any order", reads(six + "noon 0 5 0 4 1 3 2;", 9).now(0), 79);
    faultBehind(six + "noon 0 0 1 2 3 4 5 ", "5;");
    faultBehind(six + "noon 0 0 1 2 3 4 5 ", "6;");
    faultBehind(six + "noon 0 0 1 2 3 4 5 ", "x;");
    faultBehind(six + "noon 0 0 1 2 3 4 5", "");
    faultBehind(six + "noon 0 ", "6;");
    faultBehind(six + "noon 0 5 ", "6;");
    faultBehind(six + "noon 0 ", "99;");
    faultBehind(six + "noon 0 0 ", "99;");
    faultBehind(six + "noon 0 0 ", "000;");
    faultBehind(six + "noon 0 0 ", "noon 0;");
    faultBehind("ship 5;reader 0;noon 0 ", "0;");
    faultBehind("ship 5;reader 0;man 0 0;noon 0 0 ", "1;");
    due("another noon may tell him again", reads("ship 5;reader 0;man 0 9;noon 0 0;noon 0 0;", 5).of(0, 1), 7);
  }

  private static void noonsAndDeedsAsTheyCome() {
    // DAY 0 in FOG; then 50 (measured: 49), 3 more: 52; 38 more: 90; measured on DAY 3: 89; FOG of DAY 3 told ahead
    ShameAngles x = reads("ship 9;fog 1;man 0 50;reader 1;noon 0 0;noon 0 0;noon 0;deed 0 38;noon 0 0;", 9);
    due("SHAME", x.of(0, 1), 89);
    due("the DAY", x.count(2), 4);
    due("PLACE", x.now(0), 40);
    due("LOG", x.now(1), 36);
    x = reads("ship 9;man 0 50;reader 1;noon 0 0;fog 0 1;noon 0 0;man 0 88;noon 0;", 8);
    due("SHAME of one who came first", x.of(0, 1), 52);
    due("SHAME of one who came last", x.of(1, 1), 90);
    due("PLACE", x.now(0), 29);
    x = reads("ship 9;man 0 90;man 0 0;reader 0;noon 0 1;", 5);
    due("90 at most", x.of(0, 1), 90);
    due("0 at least", x.of(1, 1), 0);
    String six = "ship9;reader4;man0 9;man0 9;man0 9;man0 9;man0 9;man0 9;";
    due("PLACE going round, back", reads(six + "noon0 0 1 2 3 4 5;", 9).now(0), 55);
    due("PLACE and LOG going round", reads("ship9;reader0;" + "noon0;".repeat(12), 14).now(0), 8);
    due("LOG going round", reads("ship9;reader0;" + "noon0;".repeat(12), 14).now(1), 8);
  }

  // ---- TOKENS

  private static void blanks() {
    reads("ship5;", 1);
    reads("   ship   5   ;   ", 1);
    reads("ship5;fog1;man0 9;reader0;deed0 1;noon0 0;", 6);
    reads("ship 5 ; fog  1  0 ;  man  0  9 ; reader 0;deed 0 1 ;noon 0 0 ; ", 6);
    faultBehind("ship5;", "manman0 0;");
    faultBehind("ship5;man", "09;");
    faultBehind("ship5;man", "009;");
    faultBehind("ship5;fog", "10;");
    faultBehind("", "sh ip5;");
    faultBehind("ship5;", "rea der0;");
    faultBehind("ship5;reader0 ", "reader0;");
    faultBehind("ship5;reader0", "reader0;");
  }

  private static void onlyBlankIsBlank() {
    for (int c = 0; c <= 127; c++) {
      if (c == ' ') continue;
      String text = "ship 5;" + (char) c;
      due("read with byte " + c + " behind", Edge.type(new ShameAngles(), text).read(), -17);
      boolean begins = c >= 'a' && c <= 'z' || c >= '0' && c <= '9' || c == ';';
      if (!begins) {
        due("ahead", Edge.type(new ShameAngles(), (char) c + "ship 5;").read(), -10);
        due("between", Edge.type(new ShameAngles(), "ship" + (char) c + "5;").read(), -14);
        due("between", Edge.type(new ShameAngles(), "ship 5" + (char) c + ";").read(), -16);
      }
    }
  }

  private static void wordsOfLetters() {
    for (char c = 'a'; c <= 'z'; c++) {
      due("a word with " + c + " behind it", Edge.type(new ShameAngles(), "ship" + c + " 5;").read(), -10);
      due("a word with " + c + " ahead of it", Edge.type(new ShameAngles(), c + "ship 5;").read(), -10);
      due("a number with " + c + " behind it", Edge.type(new ShameAngles(), "ship 5" + c + ";").read(), -16);
    }
    for (String w : new String[] {"shi", "ships", "shop", "fo", "fogs", "fig", "ma", "mane", "mad", "reade", "readers",
        "leader", "dee", "deeds", "need", "noo", "noons", "moon", "a", "z", "x", "plain", "squint", "end", "clear"}) {
      faultBehind("ship 5;reader 0;man 0 9; ", w + " 0 1;");
      faultBehind("", w + " 5;");
    }
    for (String w : new String[] {"Ship", "sHip", "shiP", "SHIP"}) fault(w + " 5;", 0);
    faultBehind("ship 5;", "Man 0 9;");
    faultBehind("ship 5;man 0 9", "M;");
  }

  private static void figures() {
    reads("ship 05;", 1);
    reads("ship 00;", 1);
    fault("ship 005;", 5);
    fault("ship 000;", 5);
    fault("ship 0005;", 5);
    fault("ship 12345678901234567890;", 5);
    fault("ship 4294967301;", 5);
    fault("ship 50;", 5);
    faultBehind("ship 5 ", "000;");
    faultBehind("ship 5;", "000");
    faultBehind("ship 5;man 0 ", "090;");
    due("SHAME", reads("ship 5;man 00 09;", 2).of(0, 1), 9);
    due("SHAME", reads("ship 5;man 05 90;", 2).of(0, 1), 90);
    due("SHAME", reads("ship 5;reader 00;man 0 8;noon 00 00;", 4).of(0, 1), 7);
  }

  private static void semicolonWhereThereIsNone() {
    fault(";", 0);
    fault("ship 5;;", 7);
    fault("ship 5; ;", 8);
    fault("ship;", 4);
    fault("ship 5;fog;", 10);
    fault("ship 5;man;", 10);
    fault("ship 5;man 0;", 12);
    fault("ship 5;reader;", 13);
    fault("ship 5;man 0 0;deed;", 19);
    fault("ship 5;man 0 0;deed 0;", 21);
    fault("ship 5;reader 0;noon;", 20);
  }

  private static void endsTooEarly() {
    String all = "ship 5;fog 1 0;man 0 9;reader 0;deed 0 1;noon 0 0;";
    int items = 0;
    for (int n = 0; n <= all.length(); n++) {
      String text = all.substring(0, n);
      if (text.endsWith(";")) {
        items++;
        reads(text, items);
        reads(text + "   ", items);
      } else if (n > 0 && Character.isLetter(all.charAt(n - 1)) && Character.isLetter(all.charAt(n))) {
        faultBehind(text.substring(0, text.lastIndexOf(';') + 1), text.substring(text.lastIndexOf(';') + 1));
      } else {
        fault(text, n);
        fault(text + "  ", n + 2);
      }
    }
    due("ITEMS", items, 6);
    fault("", 0);
    fault(" ", 1);
  }

  private static void howManyItems() {
    reads("ship 5;", 1);
    reads("ship 5;fog 1;", 2);
    reads("ship0;reader0;" + "noon0;".repeat(22), 24);
    reads("ship0;" + "fog1;".repeat(28), 29);
    reads("ship0;" + "fog 0 1 0 1 0 1;".repeat(9), 10);
  }

  // ---- what a SHIP that is read takes the place of

  private static void takesThePlace() {
    ShameAngles x = Edge.type(Edge.rich(6, 3), "ship 8;");
    long above = x.part(0);
    long below = x.part(1);
    due("read", x.read(), 1);
    for (int k = 0; k <= 7; k++) due("count(" + k + ")", x.count(k), 0);
    int[] now = {0, 0, 8, 0};
    for (int k = 0; k <= 3; k++) due("now(" + k + ")", x.now(k), now[k]);
    for (int d = 0; d <= 5; d++) due("FOG of " + d, x.fog(d, 0), 0);
    due("THE TEXT stays", x.count(8), 7);
    due("THE FRACTION stays", x.part(0), above);
    due("THE FRACTION stays", x.part(1), below);
    for (int k = 0; k <= 2; k++) due("STATUS stays", x.status(k), Edge.rich(6, 3).status(k));
    due("read again", x.read(), 1);
    due("IMAGE 1 is none still", x.from(1), -3);
    due("IMAGE 0 stays", x.from(0), 1);
    due("its MEN", x.count(0), 6);
    due("its SEEN ones", x.count(4), 2);
    due("what may be undone of it", x.count(7), 2);
  }

  private static void noneOfSeenNotesMarks() {
    ShameAngles x = Edge.type(Edge.rich(2, 2), "ship 8;man 0 0;man 0 0;reader 0;reader 0;noon 0 0;deed 0 1;");
    due("read", x.read(), 7);
    for (int k = 4; k <= 7; k++) due("count(" + k + ")", x.count(k), 0);
    due("nothing to undo", x.undo(), -3);
    for (int i = 0; i <= 1; i++) {
      due("began", x.began(i, 0), 91);
      due("is", x.is(i), 63);
      due("kinds", x.kinds(i), 63);
    }
    due("seen", x.seen(0, 0, 0), 1);
    due("note", x.note(0, 0, 0, 0), 1);
    due("mark", x.mark(0, 0, 0, 0), 1);
  }

  private static void aFaultLate() {
    // what comes ahead of the FAULT is not told either
    fault("ship 1;man 0 9;reader 0;noon 0 0;fog 1;deed 0 9;x", 48);
    fault("ship 1;fog 1 1 1 1 1 1;man 0 9;man 0 9 9;", 39);
    ShameAngles x = Edge.type(new ShameAngles(), "ship 1;fog 1;man 0 9;reader 0;noon 0 0;x");
    due("read", x.read(), -49);
    Edge.type(x, "ship 2;");
    due("read", x.read(), 1);
    for (int k = 0; k <= 7; k++) due("count(" + k + ")", x.count(k), 0);
    due("FOG of 0", x.fog(0, 0), 0);
    due("BAD", x.status(0), 0);
  }

  private static void readTwice() {
    ShameAngles x = Edge.type(new ShameAngles(), "ship 5;reader 1;man 0 9;noon 0 0;");
    due("read", x.read(), 4);
    long was = x.digest();
    due("read again", x.read(), 4);
    due("the same ship", x.digest(), was);
    x.type('x');
    due("with a byte more", x.read(), -43);
    Edge.type(x, "ship 5;");
    due("read of another TEXT", x.read(), 1);
    due("MEN", x.count(0), 0);
  }

  public static void main(String[] args) {
    Edge.test("A byte (0 .. 127) comes behind THE TEXT: how many it has", EdgesText::bytesFromNoneToFull);
    Edge.test("THE TEXT is empty: how many it had", EdgesText::clearLeavesAllElse);
    Edge.test("a TEXT (150 bytes at most)", EdgesText::textOf150);
    Edge.test("ship COURSE (once, first of all); ship again, anything ahead of it", EdgesText::shipOnceFirstOfAll);
    Edge.test("ship COURSE", EdgesText::shipCourse);
    Edge.test("fog and 1 to 6 numbers (0, 1; of days 0, 1, ..); a 7th number", EdgesText::fogOneToSix);
    Edge.test("man KIND SHAME", EdgesText::manKindShame);
    Edge.test("a 7th man", EdgesText::seventhMan);
    Edge.test("reader KIND", EdgesText::readerKind);
    Edge.test("a 4th reader at its word", EdgesText::fourthReader);
    Edge.test("deed i n (1 .. 90)", EdgesText::deedItem);
    Edge.test("noon r; a READER that is not there yet", EdgesText::noonReader);
    Edge.test("0 to 6 MEN (unlike); a MAN told again in one noon", EdgesText::noonMen);
    Edge.test("ITEMS as they come", EdgesText::noonsAndDeedsAsTheyCome);
    Edge.test("blanks, any number, needed only between two words, two numbers", EdgesText::blanks);
    Edge.test("blanks (32); a byte that begins none, too", EdgesText::onlyBlankIsBlank);
    Edge.test("words of letters a .. z; a word that is none", EdgesText::wordsOfLetters);
    Edge.test("figures (1 or 2 are one number); a run of three figures or more", EdgesText::figures);
    Edge.test("; where there is none", EdgesText::semicolonWhereThereIsNone);
    Edge.test("the TEXT's length, if it ends too early (an empty one, too)", EdgesText::endsTooEarly);
    Edge.test("how many ITEMS", EdgesText::howManyItems);
    Edge.test("A SHIP that is read takes the place of all but ..", EdgesText::takesThePlace);
    Edge.test("SEEN ones, NOTES, MARKS none; nothing to undo", EdgesText::noneOfSeenNotesMarks);
    Edge.test("-10 less the FAULT: all stays", EdgesText::aFaultLate);
    Edge.test("THE TEXT stays", EdgesText::readTwice);
    Edge.end();
  }
}
