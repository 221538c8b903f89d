/** Promises 1 (a new object), 6 (feed), 7 (house), 8 (fault). */
final class TextTest {
  public static void main(String[] args) {
    newObject();
    feeding();
    faults();
    behindTheEnd();
    houses();
    allStays();
    Check.finish();
  }

  private static void newObject() {
    TypeSets x = new TypeSets();
    for (int what = 0; what < 6; what++) Check.due("count of a new object", x.count(what), 0);
    Check.due("fault", x.fault(), 0);
    Check.due("no house", x.empties(), Check.STATE);
    Check.due("no type", x.type(0, 0), Check.BAD);
    Check.due("no act", x.undo(), Check.STATE);
    Check.due("no image", x.restore(1), Check.STATE);
  }

  private static void feeding() {
    TypeSets x = new TypeSets();
    Check.due("feed", x.feed(0), 1);
    Check.due("feed", x.feed(255), 2);
    Check.due("feed", x.feed(-1), Check.BAD);
    Check.due("feed", x.feed(256), Check.BAD);
    Check.due("bytes", x.count(5), 2);
    for (int k = 3; k <= 80; k++) Check.due("feed", x.feed('a'), k);
    Check.due("feed", x.feed('a'), Check.FULL);
    Check.due("BAD is ahead of FULL", x.feed(256), Check.BAD);
    Check.due("bytes", x.count(5), 80);
    Check.due("fault 1 at 0", x.house(), -1000100);
    Check.due("the tape is empty then", x.count(5), 0);
    Check.due("feed", x.feed('s'), 1);
  }

  private static void fails(String text, int place, int fault) {
    TypeSets x = new TypeSets();
    Check.due("house of " + text, Check.tell(x, text), -1000100 - place);
    Check.due("fault of " + text, x.fault(), fault);
    Check.due("tape behind " + text, x.count(5), 0);
    Check.due("no house behind " + text, x.empties(), Check.STATE);
  }

  private static void faults() {
    fails("", 0, 1);
    fails("t1;c0,0;", 0, 1);
    fails("S1;c0,0;", 0, 1);
    fails(" s1;c0,0;", 0, 1);
    fails("1s;c0,0;", 0, 1);
    fails("s;c0,0;", 1, 1);
    fails("s0;c0,0;", 1, 2);
    fails("s5;c0,0;", 1, 2);
    fails("s99;c0,0;", 1, 2);
    fails("s001;c0,0;", 1, 1);
    fails("s1111111;c0,0;", 1, 1);
    fails("s1,c0,0;", 2, 1);
    fails("s1 ;c0,0;", 2, 1);
    fails("s1;", 3, 1);
    fails("s1;;", 3, 1);
    fails("s1;c", 4, 1);
    fails("s1;c,0;", 4, 1);
    fails("s1;c4,4;", 4, 2);
    fails("s1;c123,4;", 4, 1);
    fails("s1;c0;0;", 5, 1);
    fails("s1;c0,;", 6, 1);
    fails("s1;c2,1;", 6, 2);
    fails("s1;c0,4;", 6, 2);
    fails("s1;c0,000;", 6, 1);
    fails("s1;c0,0,", 7, 1);
    fails("s1;c0,0" + (char) 233, 7, 1);
    fails("s1;c0,0;d", 8, 1);
    fails("s1;c0,0;7", 8, 1);
    fails("s1;c0,0;c0,0;c", 14, 1);
    for (char joint : "ubl".toCharArray()) {
      fails("s1;" + joint + "0,0;", 4, 2);
      fails("s1;c0,0;" + joint + "1,0;", 9, 2);
      fails("s1;c0,0;" + joint + "0,1;", 11, 2);
    }
    for (char any : "pf".toCharArray()) {
      fails("s1;" + any + "8,0;", 4, 2);
      fails("s1;" + any + "0,8;", 6, 2);
      fails("s1;" + any + "0,10;", 6, 2);
      fails("s1;" + any + "1,0;", 8, 4);
      fails("s1;" + any + "0,7;c0,0;", 13, 4);
      fails("s1;" + any + "7,0;c0,0;x", 13, 1);
      fails("s1;" + any + "7,0;c0,0;c0,", 16, 1);
    }
    String eight = "s1;c0,0;c0,0;c0,0;c0,0;c0,0;c0,0;c0,0;c0,0;";
    fails(eight + "c0,0;", 43, 3);
    fails(eight + "c", 43, 3);
    fails(eight + "x", 43, 1);
    fails(eight + "0", 43, 1);
    fails(eight + "000", 43, 1);
    fails(eight + ";", 43, 1);
  }

  /** What was on the tape before, behind its end now, is not read. */
  private static void behindTheEnd() {
    TypeSets x = new TypeSets();
    Check.tell(x, "s123");
    Check.due("the end behind s1", Check.tell(x, "s1"), -1000102);
    Check.due("fault", x.fault(), 1);
    Check.tell(x, "s1;c0,0;c0,0;");
    Check.due("one type", Check.tell(x, "s1;c0,0;"), 1);
    String seven = "s01;c00,00;c00,00;c00,00;c00,00;c00,00;c00,00;c00,00;p0,0;";
    StringBuilder full = new StringBuilder("s1;c0,0;");
    while (full.length() < 80) full.append('0');
    Check.due("80 bytes, figures to the end", Check.tell(x, full.toString()), -1000108);
    Check.due("seven and one", Check.tell(x, seven), 8);
  }

  private static void reads(String text, int constants, int[][] types) {
    TypeSets x = new TypeSets();
    Check.due("house of " + text, Check.tell(x, text), types.length);
    Check.due("fault", x.fault(), 0);
    Check.due("types", x.count(1), types.length);
    Check.due("constants", x.count(2), constants);
    for (int t = 0; t < types.length; t++) {
      for (int what = 0; what < 3; what++) Check.due(text + " type " + t, x.type(t, what), types[t][what]);
    }
    Check.due("no type more", x.type(types.length, 0), Check.BAD);
  }

  private static void houses() {
    reads("s1;c0,0;", 1, new int[][] {{0, 0, 0}});
    reads("s04;c00,03;", 4, new int[][] {{0, 0, 3}});
    reads("s1;c3,3;", 1, new int[][] {{0, 3, 3}});
    reads("s2;p1,0;f0,01;", 2, new int[][] {{1, 1, 0}, {2, 0, 1}});
    reads("s3;c0,1;u0,0;b1,0;l2,1;", 3, new int[][] {{0, 0, 1}, {3, 0, 0}, {4, 1, 0}, {5, 2, 1}});
    reads("s4;p7,7;f7,0;c1,2;u2,1;b3,0;l4,4;p0,0;f6,7;", 4,
      new int[][] {{1, 7, 7}, {2, 7, 0}, {0, 1, 2}, {3, 2, 1}, {4, 3, 0}, {5, 4, 4}, {1, 0, 0}, {2, 6, 7}});
    reads("s01;c00,00;c00,00;c00,00;c00,00;c00,00;c00,00;c00,00;p07,00;", 1,
      new int[][] {{0, 0, 0}, {0, 0, 0}, {0, 0, 0}, {0, 0, 0}, {0, 0, 0}, {0, 0, 0}, {0, 0, 0}, {1, 7, 0}});
  }

  private static void allStays() {
    TypeSets x = Check.told("s2;c0,1;p0,0;");
    x.anew(0, 0, 0, 0);
    x.row(1, 1, 3);
    x.ask(1, 0);
    Check.tell(x, "x");
    String ahead = Check.state(x);
    Check.due("a fault again", Check.tell(x, "s3;c0,0;p0,"), -1000111);
    Check.unchanged("house", ahead, x);
    Check.due("a house", Check.tell(x, "s3;f0,0;"), 1);
    Check.due("the latest fault stays", x.fault(), 1);
    Check.due("no act can be undone", x.undo(), Check.STATE);
    Check.due("the acts are gone", x.count(4), 0);
    Check.due("rows stay", x.drop(1), 3);
    Check.due("the types of the house before are gone", x.type(1, 0), Check.BAD);
    Check.due("constants", x.count(2), 3);
  }
}
