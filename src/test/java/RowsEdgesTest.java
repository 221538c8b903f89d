/** ROWS at their bounds: Terms 1 ROWS, promises 2 to 5; which finding is first; the empty row and the full one. */
final class RowsEdgesTest {
  private static final int[] BITS = {8, 16, 32};

  public static void main(String[] args) {
    missingAtFirst();
    itemsAreZeroAtFirst();
    lowestBits();
    inPlaceOfWhatIsThere();
    emptyRow();
    fullRow();
    asTheyWereAhead();
    lanesOfCopies();
    firstInTime();
    dropped();
    Check.finish();
  }

  /** An object with a house of one span, so that who() tells whether an item is 0. */
  private static TypeSets withHouse() {
    return Check.told("s1;c0,0;");
  }

  /** The type lies in itself always: a 0 fits no equation, any other item one at least. */
  private static boolean isZero(TypeSets x, int row, int i) {
    int fitting = x.who(0, 0, row, i, 1);
    Check.due("who tells of an item", fitting >= 0 ? 1 : 0, 1);
    return fitting == 0;
  }

  /** "ROWS 0 .. 7 are missing (at first)". */
  private static void missingAtFirst() {
    TypeSets x = withHouse();
    for (int row = 0; row < 8; row++) {
      Check.due("set of missing " + row, x.set(row, 0, 1), Check.NULL);
      Check.due("drop of missing " + row, x.drop(row), Check.NULL);
      Check.due("copy of missing " + row, x.copy(row, 0, row, 0, 0), Check.NULL);
      Check.due("who of missing " + row, x.who(0, 0, row, 0, 1), Check.NULL);
      Check.due("status", x.status(), 1);
    }
    for (int row = 0; row < 8; row++) {
      Check.due("no rows yet, but those made", x.count(0), row);
      x.row(row, row % 3, row * 5);
    }
    Check.due("all eight", x.count(0), 8);
    Check.due("one in place of another is no more", x.row(7, 0, 0), 0);
    Check.due("all eight", x.count(0), 8);
  }

  /** "0 to 40 ITEMS, 0 at first", of each lane. */
  private static void itemsAreZeroAtFirst() {
    for (int lane = 0; lane <= 2; lane++) {
      TypeSets x = withHouse();
      for (int n : new int[] {0, 1, 39, 40}) {
        Check.due("row of " + n, x.row(3, lane, n), n);
        for (int i = 0; i < n; i++) Check.due("item " + i + " of " + n, isZero(x, 3, i) ? 1 : 0, 1);
        Check.due("no more items than " + n, x.set(3, n, 0), Check.PLACE);
        Check.due("none below 0", x.set(3, -1, 0), Check.PLACE);
      }
      Check.due("41", x.row(3, lane, 41), Check.BAD);
      Check.due("-1", x.row(3, lane, -1), Check.SIZE);
      Check.due("the 40 stay", x.drop(3), 40);
    }
  }

  /** "its lowest bits, as many as the LANE has": about each bound of a lane, up and down. */
  private static void lowestBits() {
    TypeSets x = withHouse();
    for (int lane = 0; lane <= 2; lane++) x.row(lane, lane, 1);
    for (int bits : BITS) {
      for (int by = -2; by <= 2; by++) {
        narrowed(x, (int) ((1L << bits - 1) + by));
        narrowed(x, (int) ((1L << bits) + by));
        narrowed(x, (int) (-(1L << bits - 1) + by));
        narrowed(x, (int) (-(1L << bits) + by));
      }
    }
    for (int lane = 0; lane < 2; lane++) {
      x.set(lane, 0, 1);
      Check.due("only bits above the lane's", x.set(lane, 0, 1 << BITS[lane]), 0);
      Check.due("is 0 then", isZero(x, lane, 0) ? 1 : 0, 1);
      x.set(lane, 0, 1 << BITS[lane] - 1);
      Check.due("the lane's highest bit", isZero(x, lane, 0) ? 1 : 0, 0);
    }
    x.set(2, 0, Integer.MIN_VALUE);
    Check.due("the highest bit of an int", isZero(x, 2, 0) ? 1 : 0, 0);
  }

  private static void narrowed(TypeSets x, int v) {
    for (int lane = 0; lane <= 2; lane++) {
      int off = 32 - BITS[lane];
      Check.due("lane " + lane + " of " + v, x.set(lane, 0, v), v << off >> off);
      Check.due("status", x.status(), 0);
    }
  }

  /** "in place of what is there": nothing of it is left, neither lane nor items nor what lay behind a shorter one. */
  private static void inPlaceOfWhatIsThere() {
    TypeSets x = withHouse();
    x.row(4, 2, 40);
    for (int i = 0; i < 40; i++) x.set(4, i, -1);
    Check.due("shorter", x.row(4, 0, 2), 2);
    Check.due("a byte now", x.set(4, 1, 511), -1);
    Check.due("beyond its end", x.set(4, 2, 1), Check.PLACE);
    Check.due("longer", x.row(4, 1, 40), 40);
    for (int i = 0; i < 40; i++) Check.due("item " + i, isZero(x, 4, i) ? 1 : 0, 1);
    Check.due("a short now", x.set(4, 39, 65535 - 1), -2);
    Check.due("found, so it stays", x.row(4, 2, -5), Check.SIZE);
    Check.due("a short yet", x.set(4, 38, 65537), 1);
    Check.due("its last item stayed", isZero(x, 4, 39) ? 1 : 0, 0);
    x.drop(4);
    x.row(4, 1, 40);
    for (int i = 0; i < 40; i++) Check.due("item " + i + " behind a drop", isZero(x, 4, i) ? 1 : 0, 1);
  }

  private static void emptyRow() {
    TypeSets x = withHouse();
    Check.due("no items", x.row(0, 1, 0), 0);
    Check.due("it is there", x.count(0), 1);
    Check.due("no place", x.set(0, 0, 0), Check.PLACE);
    Check.due("none of it", x.copy(0, 0, 0, 0, 0), 0);
    Check.due("status", x.status(), 0);
    Check.due("one of it", x.copy(0, 0, 0, 0, 1), Check.PLACE);
    Check.due("none from 1 on", x.copy(0, 1, 0, 0, 0), Check.PLACE);
    Check.due("none to 1 on", x.copy(0, 0, 0, 1, 0), Check.PLACE);
    Check.due("fewer than none", x.copy(0, 0, 0, 0, -1), Check.PLACE);
    Check.due("no item to tell of a type", x.who(0, 0, 0, 0, 1), Check.PLACE);
    Check.due("drop", x.drop(0), 0);
  }

  private static void fullRow() {
    TypeSets x = withHouse();
    x.row(7, 0, 40);
    x.row(0, 0, 40);
    Check.due("the last", x.set(7, 39, 9), 9);
    Check.due("one behind it", x.set(7, 40, 9), Check.PLACE);
    Check.due("all", x.copy(7, 0, 0, 0, 40), 40);
    Check.due("the last has come", isZero(x, 0, 39) ? 1 : 0, 0);
    Check.due("one more", x.copy(7, 0, 0, 0, 41), Check.PLACE);
    Check.due("all from 1 on", x.copy(7, 1, 0, 0, 40), Check.PLACE);
    Check.due("all to 1 on", x.copy(7, 0, 0, 1, 40), Check.PLACE);
    Check.due("none at the end", x.copy(7, 40, 0, 40, 0), 0);
    Check.due("one at the end", x.copy(7, 40, 0, 39, 1), Check.PLACE);
    Check.due("one to the end", x.copy(7, 39, 0, 40, 1), Check.PLACE);
    Check.due("the last to the first", x.copy(7, 39, 7, 0, 1), 1);
    Check.due("it has come", isZero(x, 7, 0) ? 1 : 0, 0);
    Check.due("wraps around", x.copy(7, Integer.MAX_VALUE, 0, 0, Integer.MAX_VALUE), Check.PLACE);
    Check.due("wraps around", x.copy(7, Integer.MIN_VALUE, 0, 0, Integer.MIN_VALUE), Check.PLACE);
    Check.due("wraps around", x.copy(7, 1, 0, 1, Integer.MAX_VALUE), Check.PLACE);
    Check.due("a neighbour's place", x.copy(0, 40, 7, 0, 1), Check.PLACE);
    Check.due("drop", x.drop(7), 40);
    for (int i = 0; i < 40; i++) Check.due("item " + i + " of the other", isZero(x, 0, i) ? 1 : 0, i == 39 ? 0 : 1);
  }

  /** "as they were ahead": within one row, however far, upwards and downwards, as much as fits. */
  private static void asTheyWereAhead() {
    for (int from = 0; from <= 6; from++) {
      for (int to = 0; to <= 6; to++) {
        for (int n = 0; n <= 6 - Math.max(from, to); n++) {
          boolean[] is = {true, false, false, true, true, false};
          TypeSets x = withHouse();
          x.row(5, 1, 6);
          for (int i = 0; i < 6; i++) x.set(5, i, is[i] ? 1 : 0);
          Check.due("copy " + from + " " + to + " " + n, x.copy(5, from, 5, to, n), n);
          boolean[] want = is.clone();
          for (int i = 0; i < n; i++) want[to + i] = is[from + i];
          for (int i = 0; i < 6; i++) Check.due("item " + i, isZero(x, 5, i) ? 1 : 0, want[i] ? 0 : 1);
        }
      }
    }
  }

  /** "STORE (ROWS of two LANES)": any two lanes that are not the same, even for no items. */
  private static void lanesOfCopies() {
    TypeSets x = withHouse();
    for (int lane = 0; lane <= 2; lane++) {
      x.row(lane, lane, 4);
      x.row(4 + lane, lane, 4);
    }
    for (int a = 0; a <= 2; a++) {
      for (int b = 0; b <= 2; b++) {
        for (int n = 0; n <= 4; n += 4) Check.due("lanes " + a + " " + b, x.copy(a, 0, 4 + b, 0, n), a == b ? n : Check.STORE);
      }
    }
  }

  /** "of several the first in time": NULL, STORE, PLACE of a copy; BAD is ahead of them all. */
  private static void firstInTime() {
    TypeSets x = withHouse();
    x.row(0, 0, 4);
    x.row(1, 1, 4);
    x.row(2, 0, 4);
    int[] rows = {-1, 0, 1, 2, 3, 8};
    for (int a : rows) {
      for (int b : rows) {
        for (int wrong = 0; wrong < 4; wrong++) {
          int i = wrong == 1 ? -1 : 0, j = wrong == 2 ? 5 : 0, n = wrong == 3 ? 5 : 1;
          boolean bad = a < 0 || a > 7 || b < 0 || b > 7, missing = a == 3 || b == 3, twoLanes = (a == 1) != (b == 1);
          int want = bad ? Check.BAD : missing ? Check.NULL : twoLanes ? Check.STORE : wrong > 0 ? Check.PLACE : 1;
          Check.due("copy " + a + " " + i + " " + b + " " + j + " " + n, x.copy(a, i, b, j, n), want);
        }
      }
    }
    Check.due("set: NULL ahead of PLACE", x.set(3, 99, 0), Check.NULL);
    Check.due("set: BAD ahead of NULL and PLACE", x.set(8, 99, 0), Check.BAD);
    Check.due("row: n above 40 is BAD in a lane that is none", x.row(0, 9, 41), Check.BAD);
    Check.due("row: BAD ahead of SIZE", x.row(-1, 0, -1), Check.BAD);
    Check.due("row: BAD ahead of SIZE", x.row(0, -1, -1), Check.BAD);
  }

  /** "A ROW is missing from now on". */
  private static void dropped() {
    TypeSets x = withHouse();
    for (int n = 0; n <= 40; n++) {
      x.row(6, n % 3, n);
      Check.due("how many it had", x.drop(6), n);
      Check.due("none is there", x.count(0), 0);
      Check.due("missing", x.set(6, 0, 0), Check.NULL);
    }
    Check.due("missing", x.drop(6), Check.NULL);
    x.row(5, 0, 3);
    x.row(6, 0, 3);
    x.row(7, 0, 3);
    x.drop(6);
    Check.due("its neighbours are there", x.copy(5, 0, 7, 0, 3), 3);
  }
}
