/** KINDS, ASKS, THE TRACE, counts and status() at their bounds: promises 26 to 31. */
final class AsksEdgesTest {
  private static final int[] PARENT = {-1, 0, 1, 1, 0, 4};
  private static final int[] KIND_OF_SORT = {0, 4, 5, 1, 2, 3};

  public static void main(String[] args) {
    everyTypeAsked();
    refusedAsks();
    lengthOfTheTrace();
    counts();
    statusAcrossCalls();
    Check.finish();
  }

  private static boolean is(int kind, int wanted) {
    for (int k = kind; k >= 0; k = PARENT[k]) if (k == wanted) return true;
    return false;
  }

  /** Every SORT with every A, B, of the least type that may be so and of the greatest. */
  private static void everyTypeAsked() {
    for (int t = 0; t < 8; t += 7) {
      for (int sort = 0; sort < 6; sort++) {
        for (int a = 0; a < 8; a++) {
          for (int b = 0; b < 8; b++) {
            TypeSets x = Check.told("s1;c0,0;c0,0;c0,0;c0,0;c0,0;c0,0;c0,0;c0,0;");
            if (x.anew(t, sort, a, b) == 0) asked(x, t, KIND_OF_SORT[sort], a, b);
          }
        }
      }
    }
  }

  private static void asked(TypeSets x, int t, int kind, int a, int b) {
    Check.due("kind", x.kind(t), kind);
    for (int k = 0; k <= 5; k++) {
      Check.due("as " + k + " of kind " + kind, x.as(t, k), is(kind, k) ? t : Check.KIND);
      Check.due("status", x.status(), is(kind, k) ? 0 : 3);
    }
    for (int what = 0; what <= 1; what++) {
      StringBuilder bodies = new StringBuilder();
      int want = begun(bodyOf(what, kind), t, kind, a, b, bodies);
      Check.due("ask " + what + " of kind " + kind + " " + a + " " + b, x.ask(t, what), want);
      String[] numbers = bodies.toString().trim().split(" ");
      for (int i = 0; i < 18; i++) {
        Check.due("trace " + i, x.trace(i), i < numbers.length ? Integer.parseInt(numbers[i]) : Check.NONE);
      }
    }
  }

  /** The BODY told for the KIND, else that of the nearest that it is, too, else the one that is lent. */
  private static int bodyOf(int what, int kind) {
    int[][] told = {{10, 11, 12, -1, 13, 14}, {20, 21, 24, 22, 23, -1}};
    for (int k = kind; k >= 0; k = PARENT[k]) if (told[what][k] >= 0) return told[what][k];
    return 10 + 10 * what;
  }

  private static int begun(int body, int t, int kind, int a, int b, StringBuilder bodies) {
    bodies.append(body).append(' ');
    switch (body) {
      case 10: return a;
      case 11: return begun(10, t, kind, a, b, bodies) + begun(bodyOf(1, kind), t, kind, a, b, bodies);
      case 12: return 0 - begun(11, t, kind, a, b, bodies);
      case 13: return begun(10, t, kind, a, b, bodies) - 100;
      case 14: return 2 * begun(13, t, kind, a, b, bodies);
      case 20: return t;
      case 21: return begun(20, t, kind, a, b, bodies) + b;
      case 22: return begun(21, t, kind, a, b, bodies) - 1000;
      case 23: return begun(20, t, kind, a, b, bodies) - begun(bodyOf(0, kind), t, kind, a, b, bodies);
      default: return 2 * begun(21, t, kind, a, b, bodies);
    }
  }

  /** "THE TRACE is empty ahead of it": of an ask that is not refused; a refused one leaves it as it is. */
  private static void refusedAsks() {
    TypeSets x = Check.told("s1;c0,0;b0,0;");
    Check.due("empty before any", x.trace(0), Check.NONE);
    x.ask(1, 0);
    int[][] bad = {{-1, 0}, {2, 0}, {1, -1}, {1, 2}, {Integer.MIN_VALUE, 1}, {Integer.MAX_VALUE, 1}, {0, Integer.MIN_VALUE}, {0, Integer.MAX_VALUE}};
    int[] want = {12, 11, 10, 24, 21, 20, Check.NONE};
    for (int[] n : bad) {
      Check.due("ask", x.ask(n[0], n[1]), Check.BAD);
      for (int i = 0; i < want.length; i++) Check.due("trace as it was", x.trace(i), want[i]);
    }
    x.ask(0, 1);
    Check.due("a shorter one in its place", x.trace(0), 20);
    for (int i = 1; i < 17; i++) Check.due("nothing of the longer one", x.trace(i), Check.NONE);
  }

  /** "(the first 16)": no ask leaves so many; the longest leaves six. */
  private static void lengthOfTheTrace() {
    TypeSets x = Check.told("s1;c0,0;b0,0;");
    x.ask(1, 0);
    Check.due("the first", x.trace(0), 12);
    Check.due("the sixth", x.trace(5), 20);
    int[] none = {6, 15, 16, 17, Integer.MAX_VALUE, -1, Integer.MIN_VALUE};
    for (int i : none) Check.due("trace " + i, x.trace(i), Check.NONE);
  }

  /** Each count from none to as many as there is room for. */
  private static void counts() {
    TypeSets x = new TypeSets();
    for (int k = 0; k <= 8; k++) {
      Check.due("rows", x.count(0), k);
      x.row(k, 0, 0);
    }
    for (int k = 7; k >= 0; k--) {
      x.drop(k);
      Check.due("rows", x.count(0), k);
    }
    for (int types = 1; types <= 8; types++) {
      for (int constants = 1; constants <= 4; constants++) {
        StringBuilder text = new StringBuilder("s" + constants + ";");
        for (int t = 0; t < types; t++) text.append(t < constants ? "c3,3;" : "p0,0;");
        TypeSets y = Check.told(text.toString());
        Check.due("types", y.count(1), types);
        Check.due("constants", y.count(2), constants);
        Check.due("empty types", y.count(3), constants == 4 ? 0 : types);
      }
    }
    TypeSets z = Check.told("s4;c0,3;");
    for (int k = 1; k <= 30; k++) {
      z.anew(0, 0, 0, 0);
      Check.due("acts", z.count(4), Math.min(k, 24));
    }
    for (int k = 0; k <= 90; k++) {
      Check.due("bytes", z.count(5), Math.min(k, 80));
      z.feed(k);
    }
    for (int what : new int[] {-1, 6, 7, Integer.MIN_VALUE, Integer.MAX_VALUE}) Check.due("count " + what, z.count(what), Check.BAD);
  }

  private static void status(TypeSets x, String behind, int got, int want) {
    Check.due("status behind " + behind + " answering " + got, x.status(), want);
  }

  /** "Of the latest call with a ROW, or as(), that was not BAD, STATE, FULL: the number of its FINDING; 0: .. ". */
  private static void statusAcrossCalls() {
    TypeSets x = new TypeSets();
    Check.due("there was none", x.status(), 0);
    status(x, "a BAD row", x.row(8, 0, 0), 0);
    status(x, "SIZE", x.row(0, 0, -1), 4);
    status(x, "as without a house", x.as(0, 0), 4);
    status(x, "who without a house", x.who(0, 0, 0, 0, 1), 4);
    status(x, "house", Check.tell(x, "s1;c0,0;"), 4);
    status(x, "who of a missing row", x.who(0, 0, 0, 0, 1), 1);
    status(x, "as, found", x.as(0, 4), 3);
    status(x, "as, BAD", x.as(0, 6), 3);
    status(x, "as, BAD", x.as(1, 0), 3);
    status(x, "a row with nothing wrong", x.row(0, 2, 2), 0);
    status(x, "who beyond it", x.who(0, 0, 0, 2, 1), 2);
    status(x, "set, BAD", x.set(-1, 0, 0), 2);
    status(x, "copy, BAD", x.copy(0, 0, 8, 0, 0), 2);
    status(x, "drop, BAD", x.drop(8), 2);
    status(x, "who, BAD", x.who(0, 3, 0, 0, 1), 2);
    status(x, "calls without a ROW", x.undo() + x.restore(0) + x.lies(0, 0) + x.ask(0, 0) + x.count(0) + x.fault(), 2);
    status(x, "who", x.who(0, 0, 0, 0, 1), 0);
    x.row(1, 1, 2);
    status(x, "two lanes", x.copy(0, 0, 1, 0, 0), 5);
    status(x, "set", x.set(0, 0, -1000012), 0);
    status(x, "drop of a missing one", x.drop(7), 1);
    status(x, "drop", x.drop(0), 0);
    status(x, "set of a missing one", x.set(0, 0, 0), 1);
    status(x, "as", x.as(0, 0), 0);
  }
}
