/** Promises 20 (plain), 21 (pick). */
final class PlainTest {
  public static void main(String[] args) {
    lists();
    allPairs();
    anewAndBack();
    refusals();
    Check.finish();
  }

  private static void is(TypeSets x, int type, int h, int n, int above, int below) {
    Check.due("plain " + type + " " + h, x.plain(type, h), n);
    Check.due("above " + type + " " + h, x.pick(type, h, 0), above);
    Check.due("below " + type + " " + h, x.pick(type, h, 1), below);
  }

  /** Of two constants there are 2, 6, 38, 1446 plain values; 2 is lists of 0. */
  private static void lists() {
    TypeSets x = Check.told("s2;c0,0;p0,2;u0,1;f0,0;c0,3;");
    is(x, 2, 1, 1, 1, 2);
    is(x, 2, 2, 2, 1, 3);
    is(x, 2, 3, 3, 3, 38);
    is(x, 2, 4, 4, 2, 723);
    is(x, 1, 1, 0, 0, 1);
    is(x, 3, 4, 0, 0, 1);
    is(x, 4, 1, 2, 1, 1);
    is(x, 4, 4, 2, 1, 723);
  }

  /** 0: all constants; 1: pairs of 2; 2: 0 or 1, so all plain values; 3: pairs with functions. */
  private static void allPairs() {
    int[] all = {4, 20, 404, 163220};
    TypeSets x = Check.told("s4;c0,3;p2,2;u0,1;p4,2;f0,0;u2,4;p5,5;");
    for (int h = 1; h <= 4; h++) {
      is(x, 2, h, all[h - 1], 1, 1);
      Check.due("pairs " + h, x.plain(1, h), all[h - 1] - 4);
      Check.due("with functions " + h, x.plain(3, h), 0);
      Check.due("pairs of any, without functions " + h, x.plain(6, h), all[h - 1] - 4);
    }
  }

  private static void anewAndBack() {
    TypeSets x = Check.told("s3;c0,0;p0,0;");
    is(x, 1, 2, 1, 1, 12);
    x.anew(0, 0, 0, 2);
    is(x, 1, 2, 9, 3, 4);
    x.undo();
    is(x, 1, 2, 1, 1, 12);
    Check.tell(x, "s1;c0,0;p0,0;");
    is(x, 1, 2, 1, 1, 2);
  }

  private static void refusals() {
    TypeSets x = Check.told("s1;c0,0;");
    String ahead = Check.state(x);
    Check.due("plain", x.plain(-1, 1), Check.BAD);
    Check.due("plain", x.plain(1, 1), Check.BAD);
    Check.due("plain", x.plain(0, 0), Check.BAD);
    Check.due("plain", x.plain(0, 5), Check.BAD);
    Check.due("pick", x.pick(-1, 1, 0), Check.BAD);
    Check.due("pick", x.pick(1, 1, 0), Check.BAD);
    Check.due("pick", x.pick(0, 0, 0), Check.BAD);
    Check.due("pick", x.pick(0, 5, 0), Check.BAD);
    Check.due("pick", x.pick(0, 1, -1), Check.BAD);
    Check.due("pick", x.pick(0, 1, 2), Check.BAD);
    Check.unchanged("refusals", ahead, x);
    Check.due("no house", new TypeSets().plain(0, 1), Check.BAD);
    Check.due("no house", new TypeSets().pick(0, 1, 0), Check.BAD);
  }
}
