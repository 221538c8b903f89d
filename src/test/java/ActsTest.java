/** Promises 9 (undo), 10 (anew), 11 (type), 24 (image), 25 (restore), and 30 for ACTS. */
final class ActsTest {
  public static void main(String[] args) {
    telling();
    refusing();
    undoing();
    forgetting();
    images();
    Check.finish();
  }

  private static void is(TypeSets x, int type, int sort, int a, int b) {
    Check.due("sort of " + type, x.type(type, 0), sort);
    Check.due("A of " + type, x.type(type, 1), a);
    Check.due("B of " + type, x.type(type, 2), b);
  }

  private static void telling() {
    TypeSets x = Check.told("s2;c0,1;p0,1;u0,1;");
    is(x, 2, 3, 0, 1);
    Check.due("as it was", x.anew(2, 0, 3, 3), 3);
    is(x, 2, 0, 3, 3);
    Check.due("empty now", x.empties(), 6);
    Check.due("as it was", x.anew(2, 1, 2, 0), 0);
    Check.due("as it was", x.anew(2, 2, 0, 2), 1);
    Check.due("as it was", x.anew(2, 4, 1, 1), 2);
    Check.due("as it was", x.anew(2, 5, 0, 1), 4);
    Check.due("the same once more", x.anew(2, 5, 0, 1), 5);
    is(x, 2, 5, 0, 1);
    is(x, 1, 1, 0, 1);
    Check.due("acts", x.count(4), 6);
  }

  private static void refusing() {
    TypeSets x = Check.told("s2;c0,1;p0,1;u0,1;");
    x.anew(0, 0, 0, 0);
    String ahead = Check.state(x);
    int[][] bad = {{-1, 0, 0, 0}, {3, 0, 0, 0}, {0, -1, 0, 0}, {0, 6, 0, 0}, {2, -1, 0, 0}, {2, 6, 0, 0}, {2, 7, 1, 1}, {0, 0, -1, 0}, {0, 0, 2, 1}, {0, 0, 0, 4},
      {0, 0, 4, 4}, {0, 1, 3, 0}, {0, 1, 0, 3}, {0, 1, -1, 0}, {0, 2, 0, -1}, {0, 2, 3, 3}, {0, 3, 0, 0}, {1, 3, 1, 0},
      {1, 4, 0, 1}, {2, 5, 2, 0}, {2, 3, 0, 2}, {2, 4, -1, 0}, {2, 5, 0, Integer.MIN_VALUE}, {0, 1, Integer.MAX_VALUE, 0}};
    for (int[] c : bad) Check.due("anew " + c[0] + " " + c[1] + " " + c[2] + " " + c[3], x.anew(c[0], c[1], c[2], c[3]), Check.BAD);
    Check.unchanged("anew", ahead, x);
    Check.due("type", x.type(-1, 0), Check.BAD);
    Check.due("type", x.type(3, 0), Check.BAD);
    Check.due("what", x.type(0, -1), Check.BAD);
    Check.due("what", x.type(0, 3), Check.BAD);
  }

  private static void undoing() {
    TypeSets x = Check.told("s2;c0,1;p0,1;");
    Check.due("none", x.undo(), Check.STATE);
    x.anew(0, 2, 1, 0);
    x.anew(1, 0, 1, 3);
    x.anew(0, 0, 2, 2);
    Check.due("cells ahead", x.cellAt(-1), 2);
    Check.due("undo", x.undo(), 2);
    is(x, 0, 2, 1, 0);
    is(x, 1, 0, 1, 3);
    Check.due("undo", x.undo(), 1);
    is(x, 1, 1, 0, 1);
    Check.due("undo", x.undo(), 0);
    is(x, 0, 0, 0, 1);
    Check.due("empty as at first", x.empties(), 2);
    Check.due("undo", x.undo(), Check.STATE);
    Check.due("acts", x.count(4), 0);
  }

  private static void forgetting() {
    TypeSets x = Check.told("s2;c0,0;c0,0;");
    for (int k = 0; k < 26; k++) {
      x.anew(k % 2, 0, 0, k / 2 % 4);
      Check.due("acts", x.count(4), Math.min(k + 1, 24));
    }
    for (int k = 25; k >= 2; k--) {
      is(x, k % 2, 0, 0, k / 2 % 4);
      Check.due("undo", x.undo(), k - 2);
    }
    Check.due("the oldest two are forgotten", x.undo(), Check.STATE);
    is(x, 0, 0, 0, 0);
    is(x, 1, 0, 0, 0);
    manySorts();
    TypeSets y = Check.told("s2;c1,1;");
    for (int k = 0; k < 25; k++) y.anew(0, 0, 0, 0);
    for (int k = 0; k < 24; k++) y.undo();
    is(y, 0, 0, 0, 0);
  }

  /** 31 acts of seven types, no two neighbours of a sort or a type. */
  private static void manySorts() {
    TypeSets x = Check.told("s2;c0,0;c0,0;c0,0;c0,0;c0,0;c0,0;c0,0;");
    int[][] was = new int[31][];
    for (int k = 0; k < 31; k++) {
      int type = 2 + k % 5;
      was[k] = new int[] {type, x.type(type, 0), x.type(type, 1), x.type(type, 2)};
      Check.due("as it was", x.anew(type, k % 6, k % 2, 1), was[k][1]);
    }
    for (int k = 30; k >= 7; k--) {
      Check.due("undo", x.undo(), k - 7);
      is(x, was[k][0], was[k][1], was[k][2], was[k][3]);
    }
    Check.due("the oldest seven are forgotten", x.undo(), Check.STATE);
  }

  private static void images() {
    TypeSets x = new TypeSets();
    Check.due("no house", x.image(0), Check.STATE);
    Check.due("BAD is ahead of STATE", x.image(-1), Check.BAD);
    Check.due("BAD is ahead of STATE", x.image(2), Check.BAD);
    Check.due("BAD is ahead of STATE", x.restore(2), Check.BAD);
    Check.due("none kept", x.restore(0), Check.STATE);
    Check.tell(x, "s2;c0,1;p0,1;");
    Check.due("image", x.image(1), 1);
    Check.due("none kept", x.restore(0), Check.STATE);
    Check.due("no such image", x.restore(-1), Check.BAD);
    x.anew(1, 0, 0, 0);
    Check.due("image", x.image(0), 1);
    Check.due("acts stay", x.count(4), 1);
    Check.tell(x, "s4;f0,0;");
    Check.due("restore", x.restore(0), 1);
    is(x, 1, 0, 0, 0);
    Check.due("types", x.count(1), 2);
    Check.due("constants", x.count(2), 2);
    Check.due("lies", x.others(1, 0), 3);
    x.anew(0, 0, 3, 3);
    Check.due("restore", x.restore(1), 1);
    Check.due("no act can be undone", x.undo(), Check.STATE);
    is(x, 0, 0, 0, 1);
    is(x, 1, 1, 0, 1);
    Check.due("empties", x.empties(), 2);
    x.anew(0, 0, 3, 3);
    Check.due("an image is not told anew", x.restore(1), 1);
    is(x, 0, 0, 0, 1);
    x.anew(0, 0, 3, 3);
    x.image(1);
    x.undo();
    x.restore(1);
    is(x, 0, 0, 3, 3);
  }
}
