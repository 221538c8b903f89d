/** Promises 26 (kind), 27 (as), 28 (ask), 29 (trace), 30 (count). */
final class AskTest {
  /** 0, 1: spans; 2: a union; 3: both; 4: less; 5: pairs; 6: functions. */
  private static final String HOUSE = "s2;c0,1;c1,1;u0,1;b0,1;l2,0;p3,4;f4,5;";

  public static void main(String[] args) {
    kinds();
    taken();
    sizes();
    marks();
    refusals();
    counts();
    Check.finish();
  }

  private static void kinds() {
    TypeSets x = Check.told(HOUSE);
    int[] want = {0, 0, 1, 2, 3, 4, 5};
    for (int t = 0; t < want.length; t++) Check.due("kind " + t, x.kind(t), want[t]);
    x.anew(6, 4, 0, 1);
    Check.due("told anew", x.kind(6), 2);
  }

  private static void taken() {
    TypeSets x = Check.told(HOUSE);
    String[] is = {"0", "0", "01", "012", "013", "04", "045"};
    for (int t = 0; t < is.length; t++) {
      for (int kind = 0; kind <= 5; kind++) {
        boolean fits = is[t].indexOf((char) ('0' + kind)) >= 0;
        Check.due("as " + t + " " + kind, x.as(t, kind), fits ? t : Check.KIND);
        Check.due("status", x.status(), fits ? 0 : 3);
      }
    }
  }

  private static void asked(TypeSets x, int t, int what, int want, int... trace) {
    Check.due("ask " + t + " " + what, x.ask(t, what), want);
    for (int i = 0; i < trace.length; i++) Check.due("trace of ask " + t + " " + what, x.trace(i), trace[i]);
    Check.due("trace behind", x.trace(trace.length), Check.NONE);
  }

  private static void sizes() {
    TypeSets x = Check.told(HOUSE);
    Check.due("no ask yet", x.trace(0), Check.NONE);
    asked(x, 0, 0, 0, 10);
    asked(x, 1, 0, 1, 10);
    asked(x, 2, 0, 0 + (2 + 1), 11, 10, 21, 20);
    asked(x, 3, 0, -(0 + 2 * (3 + 1)), 12, 11, 10, 24, 21, 20);
    asked(x, 4, 0, 2 + (4 + 0 - 1000), 11, 10, 22, 21, 20);
    asked(x, 5, 0, 3 - 100, 13, 10);
    asked(x, 6, 0, 2 * (4 - 100), 14, 13, 10);
  }

  private static void marks() {
    TypeSets x = Check.told(HOUSE);
    asked(x, 0, 1, 0, 20);
    asked(x, 1, 1, 1, 20);
    asked(x, 2, 1, 2 + 1, 21, 20);
    asked(x, 3, 1, 2 * (3 + 1), 24, 21, 20);
    asked(x, 4, 1, 4 + 0 - 1000, 22, 21, 20);
    asked(x, 5, 1, 5 - (3 - 100), 23, 20, 13, 10);
    asked(x, 6, 1, 6 - 2 * (4 - 100), 23, 20, 14, 13, 10);
  }

  private static void refusals() {
    TypeSets x = Check.told(HOUSE);
    x.ask(6, 1);
    String ahead = Check.state(x);
    Check.due("kind", x.kind(-1), Check.BAD);
    Check.due("kind", x.kind(7), Check.BAD);
    Check.due("as", x.as(-1, 0), Check.BAD);
    Check.due("as", x.as(7, 0), Check.BAD);
    Check.due("as", x.as(0, -1), Check.BAD);
    Check.due("as", x.as(0, 6), Check.BAD);
    Check.due("as", x.as(0, 5), Check.KIND);
    Check.due("ask", x.ask(-1, 0), Check.BAD);
    Check.due("ask", x.ask(7, 0), Check.BAD);
    Check.due("ask", x.ask(0, -1), Check.BAD);
    Check.due("ask", x.ask(0, 2), Check.BAD);
    Check.due("trace", x.trace(-1), Check.NONE);
    Check.due("trace", x.trace(Integer.MAX_VALUE), Check.NONE);
    Check.unchanged("refusals", ahead, x);
    Check.due("the trace of a house before stays", Check.tell(x, "s1;c0,0;"), 1);
    Check.due("the trace of a house before stays", x.trace(0), 23);
  }

  private static void counts() {
    TypeSets x = Check.told("s3;c0,0;p1,1;c3,3;");
    x.row(0, 0, 0);
    x.row(7, 1, 4);
    x.row(7, 2, 5);
    x.anew(0, 0, 1, 1);
    x.feed(1);
    x.feed(2);
    int[] want = {2, 3, 3, 2, 1, 2};
    for (int what = 0; what < 6; what++) Check.due("count " + what, x.count(what), want[what]);
    Check.due("count -1", x.count(-1), Check.BAD);
    Check.due("count 6", x.count(6), Check.BAD);
    x.anew(1, 1, 0, 0);
    Check.due("empty types", x.count(3), 1);
    x.undo();
    Check.due("empty types", x.count(3), 2);
  }
}
