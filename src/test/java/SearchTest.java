/** Promises 22 (who), 23 (drawn); OracleTest has many more against the model. */
final class SearchTest {
  public static void main(String[] args) {
    equations();
    eachKindOfTry();
    whoRefused();
    draws();
    drawnRefused();
    Check.finish();
  }

  private static void row(TypeSets x, int row, int... items) {
    x.row(row, 0, items.length);
    for (int i = 0; i < items.length; i++) x.set(row, i, items[i]);
  }

  /** 0: {0}; 1: pairs of 0 and itself, empty. */
  private static void equations() {
    TypeSets x = Check.told("s1;c0,0;p0,1;");
    row(x, 2, 7, 0, -1, 1, 1, 0, 0);
    String ahead = Check.state(x);
    Check.due("0 does not lie in it", x.who(1, 0, 2, 1, 2), 6);
    Check.due("0 lies in it", x.who(1, 0, 2, 3, 2), 1);
    Check.due("not even it", x.who(1, 0, 2, 5, 2), 0);
    Check.due("of type 0 alone", x.who(1, 0, 2, 0, 1), 1);
    Check.due("any A", x.who(1, 1, 2, 1, 2), 3);
    Check.due("any B", x.who(1, 2, 2, 1, 2), 3);
    Check.due("no A", x.who(1, 1, 2, 3, 2), 0);
    Check.unchanged("who", ahead, x);
  }

  /** 0: {0}; 1: {0, 1}; 2: {0, 1} less {0}. */
  private static void eachKindOfTry() {
    TypeSets x = Check.told("s2;c0,0;c0,1;l1,0;");
    row(x, 0, 0, 0, 1);
    Check.due("a span from 1 to 0 may not stand", x.who(2, 0, 0, 0, 3), 2 | 4 | 32);
    row(x, 0, 1, 1, 1);
    Check.due("the union", x.who(2, 0, 0, 0, 3), 8);
    row(x, 0, 1, 0, 1);
    Check.due("what is in both", x.who(2, 0, 0, 0, 3), 16);
    row(x, 0, 0, 0, 1);
    Check.due("A 0 less 0 is empty, 1 less 0 is {1}; not itself", x.who(2, 1, 0, 0, 3), 3);
    Check.due("B", x.who(2, 2, 0, 0, 3), 3);
    row(x, 0, 1, 1, 0);
    Check.due("it must lie in itself", x.who(2, 1, 0, 0, 3), 0);
    TypeSets y = Check.told("s4;c0,2;c1,2;");
    row(y, 0, 0, 1);
    Check.due("spans to 2", y.who(1, 1, 0, 0, 2), 6);
    Check.due("spans from 1", y.who(1, 2, 0, 0, 2), 14);
    row(y, 0, 1, 1);
    Check.due("spans to 2 from 0", y.who(1, 1, 0, 0, 2), 1);
    Check.due("of two but the first alone", y.who(0, 0, 0, 0, 1), 1);
  }

  private static void whoRefused() {
    TypeSets x = Check.told("s1;c0,0;p0,1;");
    row(x, 0, 1, 1, 1);
    String ahead = Check.state(x);
    int[][] bad = {{-1, 0, 0, 0, 1}, {2, 0, 0, 0, 1}, {0, -1, 0, 0, 1}, {0, 3, 0, 0, 1}, {0, 0, -1, 0, 1}, {0, 0, 8, 0, 1},
      {0, 0, 0, 0, 0}, {0, 0, 0, 0, 3}, {0, 0, 0, 0, 9}, {0, 0, 0, 0, -1}, {0, 0, 1, 0, 3}, {0, 0, 0, -1, 3}};
    for (int[] c : bad) Check.due("who", x.who(c[0], c[1], c[2], c[3], c[4]), Check.BAD);
    Check.due("missing", x.who(0, 0, 1, 0, 1), Check.NULL);
    Check.due("NULL is ahead of PLACE", x.who(0, 0, 1, -1, 1), Check.NULL);
    Check.due("below", x.who(0, 0, 0, -1, 1), Check.PLACE);
    Check.due("beyond", x.who(0, 0, 0, 2, 2), Check.PLACE);
    Check.due("beyond", x.who(0, 0, 0, 3, 1), Check.PLACE);
    Check.due("far beyond", x.who(0, 0, 0, Integer.MAX_VALUE, 2), Check.PLACE);
    Check.due("status", x.status(), 2);
    Check.unchanged("who", ahead, x);
    Check.due("no house", new TypeSets().who(0, 0, 0, 0, 1), Check.BAD);
  }

  private static void draws() {
    TypeSets x = Check.told("s2;c0,0;p0,1;f0,0;");
    x.anew(2, 0, 0, 1);
    String ahead = Check.state(x);
    Check.due("none", x.drawn(0, 1, 0), 2);
    Check.due("none", x.drawn(0, 999999, 1), 3);
    // X is 16807: type 1, SORT 0, A 6, B 0
    Check.due("what may not stand is nothing", x.drawn(1, 1, 1), 3);
    int[][] by = firstDraws(x, 3);
    Check.due("each type is drawn by some seed", by[0][0] + by[1][0] + by[2][0], 3);
    for (int t = 0; t < 3; t++) {
      TypeSets y = Check.told("s2;c0,0;p0,1;c0,1;");
      y.anew(t, by[t][2], by[t][3], by[t][4]);
      Check.due("drawn " + by[t][1], x.drawn(1, by[t][1], 1), y.cellAt(-1));
      Check.due("drawn " + by[t][1], x.drawn(1, by[t][1], 0), 3 - y.count(3));
    }
    Check.unchanged("drawn", ahead, x);
  }

  /** Of each type the first seed whose first draw may stand: 1, the seed, SORT, A, B. */
  private static int[][] firstDraws(TypeSets x, int types) {
    int[][] by = new int[types][5];
    for (int seed = 1; seed < 2000; seed++) {
      long drawn = seed * 16807L % 2147483647L;
      int t = (int) (drawn % types), sort = (int) (drawn / 8 % 6), a = (int) (drawn / 64 % 8), b = (int) (drawn / 512 % 8);
      boolean fits = sort == 0 ? a <= b && b <= 3 : sort <= 2 ? a < types && b < types : a < t && b < t;
      if (fits && by[t][0] == 0) by[t] = new int[] {1, seed, sort, a, b};
    }
    return by;
  }

  private static void drawnRefused() {
    TypeSets none = new TypeSets();
    Check.due("STATE is ahead of BAD", none.drawn(-1, 0, 2), Check.STATE);
    TypeSets x = Check.told("s1;c0,0;p0,1;");
    String ahead = Check.state(x);
    int[][] bad = {{-1, 1, 0}, {21, 1, 0}, {1, 0, 0}, {1, 1000000, 0}, {1, -1, 0}, {1, 1, -1}, {1, 1, 2}};
    for (int[] c : bad) Check.due("drawn", x.drawn(c[0], c[1], c[2]), Check.BAD);
    Check.unchanged("drawn", ahead, x);
  }
}
