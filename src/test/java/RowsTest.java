/** Promises 2 to 5 (row, set, copy, drop), 31 (status), and 30 for ROWS. */
final class RowsTest {
  public static void main(String[] args) {
    making();
    setting();
    copying();
    dropping();
    statusOnlyOfRowsAndAs();
    Check.finish();
  }

  private static void making() {
    TypeSets x = new TypeSets();
    Check.due("status of a new object", x.status(), 0);
    Check.due("row 0", x.row(0, 0, 0), 0);
    Check.due("row 7", x.row(7, 2, 40), 40);
    Check.due("rows", x.count(0), 2);
    Check.due("row -1", x.row(-1, 0, 1), Check.BAD);
    Check.due("row 8", x.row(8, 0, 1), Check.BAD);
    Check.due("lane -1", x.row(0, -1, 1), Check.BAD);
    Check.due("lane 3", x.row(0, 3, 1), Check.BAD);
    Check.due("41 items", x.row(0, 0, 41), Check.BAD);
    Check.due("very many items", x.row(0, 0, Integer.MAX_VALUE), Check.BAD);
    Check.due("fewer than none", x.row(0, 0, -1), Check.SIZE);
    Check.due("status", x.status(), 4);
    Check.due("fewest", x.row(1, 0, Integer.MIN_VALUE), Check.SIZE);
    Check.due("BAD is ahead of SIZE", x.row(8, 0, -1), Check.BAD);
    Check.due("BAD lane is ahead of SIZE", x.row(0, 3, -1), Check.BAD);
    Check.due("rows", x.count(0), 2);
    Check.due("the row stayed", x.drop(0), 0);
    x.row(2, 2, 3);
    for (int i = 0; i < 3; i++) x.set(2, i, 77);
    Check.due("anew", x.row(2, 2, 3), 3);
    for (int i = 0; i < 3; i++) Check.due("items are 0 again", itemOf(x, 2, i), 0);
    Check.due("shorter", x.row(2, 0, 1), 1);
    Check.due("place behind it", x.set(2, 1, 1), Check.PLACE);
  }

  /** An int item by who(): of type 0 alone a row with 0 fits nothing, any other item all that may stand. */
  private static int itemOf(TypeSets x, int row, int i) {
    if (x.count(1) == 0) Check.tell(x, "s1;c0,0;");
    return x.who(0, 0, row, i, 1) == 0 ? 0 : 1;
  }

  private static void setting() {
    TypeSets x = new TypeSets();
    x.row(0, 0, 2);
    x.row(1, 1, 2);
    x.row(2, 2, 2);
    int[] given = {0, 1, -1, 127, 128, 255, 256, -129, 32767, 32768, 65535, 65536, 70000, Integer.MAX_VALUE, Integer.MIN_VALUE, Check.NULL, Check.BAD};
    for (int v : given) {
      Check.due("byte " + v, x.set(0, 1, v), (byte) v);
      Check.due("short " + v, x.set(1, 0, v), (short) v);
      Check.due("int " + v, x.set(2, 1, v), v);
      Check.due("status behind " + v, x.status(), 0);
    }
    Check.due("no such row", x.set(8, 0, 0), Check.BAD);
    Check.due("no such row", x.set(-1, 0, 0), Check.BAD);
    Check.due("missing", x.set(3, 0, 0), Check.NULL);
    Check.due("status", x.status(), 1);
    Check.due("missing, at no place", x.set(3, -1, 0), Check.NULL);
    Check.due("below", x.set(0, -1, 0), Check.PLACE);
    Check.due("status", x.status(), 2);
    Check.due("behind", x.set(0, 2, 0), Check.PLACE);
    Check.due("far behind", x.set(0, Integer.MAX_VALUE, 0), Check.PLACE);
    x.row(4, 0, 0);
    Check.due("no items", x.set(4, 0, 0), Check.PLACE);
    Check.due("narrowed to 0", x.set(0, 0, 256), 0);
    Check.due("kept as narrowed", itemOf(x, 0, 0), 0);
  }

  private static void copying() {
    TypeSets x = new TypeSets();
    x.row(0, 2, 8);
    x.row(1, 2, 4);
    x.row(2, 1, 4);
    Check.due("no such row", x.copy(8, 0, 0, 0, 0), Check.BAD);
    Check.due("no such row", x.copy(0, 0, -1, 0, 0), Check.BAD);
    Check.due("missing", x.copy(3, 0, 0, 0, 0), Check.NULL);
    Check.due("missing", x.copy(0, 0, 3, 0, 0), Check.NULL);
    Check.due("NULL is ahead of STORE and PLACE", x.copy(2, -1, 3, 0, -1), Check.NULL);
    Check.due("two lanes", x.copy(0, 0, 2, 0, 1), Check.STORE);
    Check.due("status", x.status(), 5);
    Check.due("STORE is ahead of PLACE", x.copy(0, -1, 2, 0, 1), Check.STORE);
    Check.due("none, of two lanes", x.copy(0, 0, 2, 0, 0), Check.STORE);
    int[][] places = {{-1, 0, 1}, {0, -1, 1}, {0, 0, -1}, {0, 0, 5}, {5, 0, 4}, {0, 1, 4}, {9, 0, 0}, {0, 5, 0},
      {1, 0, Integer.MAX_VALUE}, {Integer.MAX_VALUE, 0, 1}, {0, Integer.MAX_VALUE, 1}, {1, 1, Integer.MIN_VALUE}};
    for (int[] p : places) {
      Check.due("copy " + p[0] + " " + p[1] + " " + p[2], x.copy(0, p[0], 1, p[1], p[2]), Check.PLACE);
      Check.due("status", x.status(), 2);
    }
    Check.due("none at the ends", x.copy(0, 8, 1, 4, 0), 0);
    Check.due("status", x.status(), 0);
    Check.due("all", x.copy(1, 0, 0, 4, 4), 4);
    overlapping(2, 0, "up");
    overlapping(0, 2, "down");
  }

  /** Items 0 0 1 1 0 of a row move within it; which of them are not 0 is seen by who(). */
  private static void overlapping(int from, int to, String way) {
    TypeSets x = new TypeSets();
    Check.tell(x, "s1;c0,0;");
    int[] items = {1, 0, 2, 3, 0};
    x.row(0, 0, 5);
    for (int i = 0; i < 5; i++) x.set(0, i, items[i]);
    Check.due(way, x.copy(0, from, 0, to, 3), 3);
    int[] want = items.clone();
    System.arraycopy(items, from, want, to, 3);
    for (int i = 0; i < 5; i++) Check.due(way + " item " + i, itemOf(x, 0, i), want[i] == 0 ? 0 : 1);
  }

  private static void dropping() {
    TypeSets x = new TypeSets();
    x.row(5, 1, 17);
    Check.due("no such row", x.drop(-1), Check.BAD);
    Check.due("no such row", x.drop(8), Check.BAD);
    Check.due("missing", x.drop(4), Check.NULL);
    Check.due("status", x.status(), 1);
    Check.due("drop", x.drop(5), 17);
    Check.due("status", x.status(), 0);
    Check.due("rows", x.count(0), 0);
    Check.due("again", x.drop(5), Check.NULL);
    Check.due("set of it", x.set(5, 0, 1), Check.NULL);
    x.row(5, 1, 0);
    Check.due("no items", x.drop(5), 0);
  }

  private static void statusOnlyOfRowsAndAs() {
    TypeSets x = new TypeSets();
    x.drop(0);
    int[] others = {x.feed(-1), x.undo(), x.fault(), x.trace(0), x.count(9), x.empties(), x.row(9, 0, 0), x.set(9, 0, 0),
      x.copy(9, 0, 0, 0, 0), x.drop(9), x.as(0, 0), x.who(0, 0, 0, 0, 1), x.image(0)};
    Check.due("status stays through " + others.length + " others", x.status(), 1);
    Check.tell(x, "s1;c0,0;");
    x.lies(0, 0);
    Check.due("status stays", x.status(), 1);
    Check.due("a union it is not", x.as(0, 1), Check.KIND);
    Check.due("status of as", x.status(), 3);
    x.as(0, 6);
    Check.due("BAD leaves it", x.status(), 3);
    x.as(0, 0);
    Check.due("status of as", x.status(), 0);
    Check.due("who of a missing row", x.who(0, 0, 0, 0, 1), Check.NULL);
    Check.due("status of who", x.status(), 1);
    x.row(0, 0, 1);
    x.who(0, 0, 0, 1, 1);
    Check.due("status of who", x.status(), 2);
    x.who(0, 0, 0, 0, 1);
    Check.due("status of who", x.status(), 0);
  }
}
