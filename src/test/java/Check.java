/** What the tests share: answers that are due, and houses told by a text. */
final class Check {
  static final int NONE = TypeSets.NONE, BAD = TypeSets.BAD, STATE = TypeSets.STATE, FULL = TypeSets.FULL;
  static final int NULL = -1000011, PLACE = -1000012, KIND = -1000013, SIZE = -1000014, STORE = -1000015;

  private static int calls = 0;
  private static int wrong = 0;

  private Check() {
  }

  static void due(String call, long got, long want) {
    calls++;
    if (got != want) {
      wrong++;
      if (wrong <= 50) System.out.println(call + " answered " + got + ", due is " + want);
    }
  }

  static void finish() {
    System.out.println(calls + " answers, " + wrong + " not as due");
    if (wrong != 0 || calls == 0) System.exit(1);
  }

  static int tell(TypeSets x, String text) {
    for (int i = 0; i < text.length(); i++) x.feed(text.charAt(i));
    return x.house();
  }

  static TypeSets told(String text) {
    TypeSets x = new TypeSets();
    int types = tell(x, text);
    if (types < 1) due("house of " + text, types, 1);
    return x;
  }

  /** All that can be asked without changing anything, but status(), as one text. */
  static String state(TypeSets x) {
    StringBuilder s = new StringBuilder();
    for (int what = 0; what < 6; what++) s.append(x.count(what)).append(' ');
    int types = x.count(1);
    for (int t = 0; t < types; t++) {
      for (int what = 0; what < 3; what++) s.append(x.type(t, what)).append(',');
      s.append(x.others(t, 0)).append(';').append(x.others(t, 2)).append(' ');
    }
    s.append(x.cellAt(-1)).append(' ').append(x.fault()).append(" trace");
    for (int i = 0; i < 17; i++) s.append(' ').append(x.trace(i));
    return s.toString();
  }

  /** A call that is refused or found changes nothing: the state ahead is that behind. */
  static void unchanged(String call, String ahead, TypeSets x) {
    due(call + " changes nothing", state(x).equals(ahead) ? 1 : 0, 1);
  }
}
