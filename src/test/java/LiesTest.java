/** Promises 12 (lowest), 13 (lies), 14 (others), 15 (empties), 16 (cellAt), and 30 for EMPTY TYPES. */
final class LiesTest {
  public static void main(String[] args) {
    joints();
    lists();
    arrows();
    laws();
    emptyOnes();
    heights();
    refusals();
    Check.finish();
  }

  private static void others(TypeSets x, int what, int... want) {
    for (int t = 0; t < want.length; t++) {
      Check.due("others " + t + " " + what, x.others(t, what), want[t]);
      for (int o = 0; o < want.length && what == 0; o++) Check.due("lies " + t + " " + o, x.lies(t, o), want[t] >> o & 1);
    }
  }

  private static void cells(TypeSets x, int... want) {
    Check.due("how many cells", x.cellAt(-1), want.length);
    for (int k = 0; k < want.length; k++) Check.due("cell " + k, x.cellAt(k), want[k]);
    Check.due("not so many", x.cellAt(want.length), Check.NONE);
    Check.due("not so many", x.cellAt(Integer.MAX_VALUE), Check.NONE);
  }

  /** 0: {0}; 1: {0, 1}; 2: pairs of 0 and 1; 3: functions from 0 to 1; 4: 0 or 2; 5: 1 less 0; 6: both 1 and 0. */
  private static void joints() {
    TypeSets x = Check.told("s2;c0,0;c0,1;p0,1;f0,1;u0,2;l1,0;b1,0;");
    others(x, 0, 83, 2, 20, 8, 16, 34, 83);
    others(x, 1, 65, 2, 4, 8, 16, 32, 65);
    others(x, 2, 44, 12, 107, 119, 40, 93, 44);
    Check.due("empties", x.empties(), 0);
    cells(x, 0, 8, 20, 34, 83);
    Check.due("any value", x.lowest(0, 0), 1);
    Check.due("a pair of 0 and another", x.lowest(4, 0), 2);
    Check.due("a function without cases", x.lowest(8, 0), 1);
    Check.due("of no type", x.lowest(0, 127), 2);
    Check.due("not a constant", x.lowest(0, 2), 1);
    Check.due("neither", x.lowest(0, 10), 2);
    Check.due("a type of both", x.lowest(1, 1), Check.NONE);
    Check.due("0 and 1", x.lowest(1 | 32, 0), Check.NONE);
    Check.due("4 but not 0", x.lowest(16, 1), 2);
  }

  /** 0: {0}; 1: pairs of 0 and 2; 2: 0 or 1, so lists; 3: pairs of 0 and 1, so lists of two or more. */
  private static void lists() {
    TypeSets x = Check.told("s2;c0,0;p0,2;u0,1;p0,1;");
    others(x, 0, 5, 6, 4, 14);
    others(x, 2, 10, 1, 0, 1);
    cells(x, 0, 5, 6, 14);
    Check.due("0", x.lowest(4, 0), 1);
    Check.due("a list of one more", x.lowest(2, 0), 2);
    Check.due("a list of two more", x.lowest(8, 0), 3);
  }

  /** 0: {0}; 1: {0, 1}; then functions of these. */
  private static void arrows() {
    TypeSets x = Check.told("s2;c0,0;c0,1;f0,0;f1,0;f0,1;f1,1;");
    others(x, 0, 3, 2, 20, 60, 16, 48);
    Check.due("the one without cases is of all", x.lowest(60, 0), 1);
    Check.due("no function is of just one", x.lowest(8, 4), Check.NONE);
    Check.due("a case makes a function of none", x.lowest(0, 63), 2);
  }

  private static void laws() {
    TypeSets x = Check.told("s2;c0,0;c1,1;u0,1;f0,0;f1,0;b3,4;f2,0;");
    Check.due("from one or the other is from both", x.others(5, 1), 96);
    TypeSets y = Check.told("s3;c0,1;c1,2;b0,1;f0,0;f0,1;b3,4;f0,2;");
    Check.due("to one and to the other is to both", y.others(5, 1), 96);
    TypeSets z = Check.told("s3;c0,0;c1,1;u0,1;p2,2;p0,2;p1,2;u4,5;");
    Check.due("pairs of one or the other", z.others(3, 1), 72);
  }

  /** 0: {3} of two constants; 1: pairs of itself; 2: functions from 0; 3: functions to 0 from 5; 4: 1 or 0; 5: {0}. */
  private static void emptyOnes() {
    TypeSets x = Check.told("s2;c3,3;p1,1;f0,1;f5,0;u1,0;c0,0;");
    Check.due("empties", x.empties(), 19);
    Check.due("how many", x.count(3), 3);
    others(x, 0, 63, 63, 4, 12, 63, 32);
    others(x, 1, 19, 19, 4, 8, 19, 32);
    others(x, 2, 63, 63, 51, 51, 63, 31);
    Check.due("no value", x.lowest(1, 0), Check.NONE);
    Check.due("what may not be asked", x.lowest(4, 8), 2);
    TypeSets y = Check.told("s2;c0,1;p0,2;l1,1;");
    Check.due("less itself", y.empties(), 6);
  }

  /** Pairs of a constant and a type told behind, each one higher than the next. */
  private static void heights() {
    TypeSets x = Check.told("s1;p1,1;p2,7;p3,3;p4,4;p5,5;p6,6;p7,7;c0,0;");
    for (int t = 0; t < 8; t++) Check.due("height of " + t, x.lowest(1 << t, 0), 8 - t);
    TypeSets y = Check.told("s1;c0,0;f0,0;f1,1;l2,1;f3,0;l1,4;");
    Check.due("a case from 0 to no answer", y.lowest(8, 0), 2);
    Check.due("a case from such a function to no answer", y.lowest(32, 0), 3);
  }

  private static void refusals() {
    TypeSets none = new TypeSets();
    Check.due("STATE is ahead of BAD", none.lowest(-1, 999), Check.STATE);
    Check.due("STATE is ahead of BAD", none.cellAt(-2), Check.STATE);
    Check.due("STATE", none.empties(), Check.STATE);
    Check.due("no such type", none.lies(0, 0), Check.BAD);
    Check.due("no such type", none.others(0, 0), Check.BAD);
    TypeSets x = Check.told("s1;c0,0;p0,1;");
    String ahead = Check.state(x);
    int[][] bad = {{-1, 0}, {0, -1}, {4, 0}, {0, 4}, {Integer.MAX_VALUE, 0}, {0, Integer.MIN_VALUE}};
    for (int[] c : bad) Check.due("lowest " + c[0] + " " + c[1], x.lowest(c[0], c[1]), Check.BAD);
    Check.due("no such type", x.lies(2, 0), Check.BAD);
    Check.due("no such type", x.lies(0, 2), Check.BAD);
    Check.due("no such type", x.lies(-1, 0), Check.BAD);
    Check.due("no such type", x.lies(0, -1), Check.BAD);
    Check.due("no such type", x.others(2, 0), Check.BAD);
    Check.due("no such type", x.others(-1, 0), Check.BAD);
    Check.due("no such what", x.others(0, 3), Check.BAD);
    Check.due("no such what", x.others(0, -1), Check.BAD);
    Check.due("no such k", x.cellAt(-2), Check.BAD);
    Check.due("no such k", x.cellAt(Integer.MIN_VALUE), Check.BAD);
    Check.unchanged("refusals", ahead, x);
  }
}
