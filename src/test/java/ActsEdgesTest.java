/** ACTS, IMAGES and HOUSES at their bounds: promises 1, 7, 9 to 11, 24, 25. */
final class ActsEdgesTest {
  public static void main(String[] args) {
    noneAtFirst();
    justAsManyAsAreKept();
    oneMoreThanAreKept();
    refusedWhenFull();
    roomBehindAnUndo();
    forgottenAtLast();
    whatMayStand();
    ofAnyNumberOfTypes();
    newHouse();
    images();
    imageIsOfTheHouseAlone();
    Check.finish();
  }

  private static void is(String when, TypeSets x, int type, int sort, int a, int b) {
    Check.due(when + ": SORT of " + type, x.type(type, 0), sort);
    Check.due(when + ": A of " + type, x.type(type, 1), a);
    Check.due(when + ": B of " + type, x.type(type, 2), b);
  }

  /** "No HOUSE": neither types nor acts nor images. */
  private static void noneAtFirst() {
    TypeSets x = new TypeSets();
    Check.due("no act", x.undo(), Check.STATE);
    Check.due("no image", x.restore(0), Check.STATE);
    Check.due("no image", x.restore(1), Check.STATE);
    Check.due("nothing to keep", x.image(0), Check.STATE);
    Check.due("nothing to keep", x.image(1), Check.STATE);
    Check.due("nothing was kept", x.restore(0), Check.STATE);
    Check.due("nothing was kept", x.restore(1), Check.STATE);
    for (int t = 0; t < 8; t++) Check.due("no type", x.anew(t, 0, 0, 0), Check.BAD);
    Check.due("no act", x.count(4), 0);
    Check.tell(x, "s1;c0,0;");
    Check.due("a house without acts", x.undo(), Check.STATE);
  }

  /** Act k tells type k % 3 as a span from k % 4 to 3. */
  private static TypeSets acted(int acts) {
    TypeSets x = Check.told("s2;p0,0;p0,1;p0,2;");
    for (int k = 0; k < acts; k++) {
      Check.due("as it was", x.anew(k % 3, 0, k % 4, 3), k < 3 ? 1 : 0);
      Check.due("acts", x.count(4), Math.min(k + 1, 24));
    }
    return x;
  }

  private static void isBehind(TypeSets x, int acts) {
    for (int t = 0; t < 3; t++) {
      int latest = -1;
      for (int k = t; k < acts; k += 3) latest = k;
      if (latest < 0) is(acts + " acts", x, t, 1, 0, t);
      else is(acts + " acts", x, t, 0, latest % 4, 3);
    }
  }

  /** "24 at most are kept": of 24 each can be undone, the latest first. */
  private static void justAsManyAsAreKept() {
    for (int acts = 1; acts <= 24; acts++) {
      TypeSets x = acted(acts);
      for (int k = acts - 1; k >= 0; k--) {
        Check.due("undo", x.undo(), k);
        isBehind(x, k);
      }
      Check.due("none is left", x.undo(), Check.STATE);
    }
  }

  /** "of more the oldest is forgotten". */
  private static void oneMoreThanAreKept() {
    for (int acts = 25; acts <= 50; acts++) {
      TypeSets x = acted(acts);
      for (int k = acts - 1; k >= acts - 24; k--) {
        Check.due("undo", x.undo(), k - (acts - 24));
        isBehind(x, k);
      }
      Check.due("the older ones are forgotten", x.undo(), Check.STATE);
      isBehind(x, acts - 24);
    }
  }

  /** An act that is refused takes no room. */
  private static void refusedWhenFull() {
    TypeSets x = acted(24);
    int[][] bad = {{3, 0, 0, 0}, {-1, 0, 0, 0}, {0, 6, 0, 0}, {0, -1, 0, 0}, {0, 0, 1, 0}, {0, 0, 0, 4}, {0, 1, 3, 0},
      {0, 2, 0, 3}, {0, 3, 0, 0}, {1, 4, 0, 1}, {2, 5, 2, 0}, {Integer.MIN_VALUE, 0, 0, 0}, {Integer.MAX_VALUE, 0, 0, 0}};
    for (int[] n : bad) Check.due("anew", x.anew(n[0], n[1], n[2], n[3]), Check.BAD);
    Check.due("24 yet", x.count(4), 24);
    for (int k = 23; k >= 0; k--) Check.due("undo", x.undo(), k);
    isBehind(x, 0);
  }

  private static void roomBehindAnUndo() {
    TypeSets x = acted(24);
    x.undo();
    x.anew(2, 2, 1, 1);
    Check.due("24 again", x.count(4), 24);
    for (int k = 23; k >= 0; k--) Check.due("undo", x.undo(), k);
    isBehind(x, 0);
    Check.due("none is left", x.undo(), Check.STATE);
    x.anew(1, 0, 3, 3);
    Check.due("one", x.count(4), 1);
    Check.due("undone", x.undo(), 0);
    isBehind(x, 0);
  }

  /** The first act of all tells a type that none later does: once forgotten it stays as that act left it. */
  private static void forgottenAtLast() {
    for (int more = 23; more <= 24; more++) {
      TypeSets x = Check.told("s2;c0,0;c0,0;");
      x.anew(1, 0, 2, 3);
      for (int k = 0; k < more; k++) x.anew(0, 0, 0, k % 4);
      for (int k = 0; k < 24; k++) x.undo();
      Check.due("no more", x.undo(), Check.STATE);
      is("first type", x, 0, 0, 0, 0);
      is("the act of 25", x, 1, 0, more == 23 ? 0 : 2, more == 23 ? 0 : 3);
    }
  }

  /** "BAD: these may not stand there, too": every SORT, A, B about the bounds, of each TYPE of each house. */
  private static void whatMayStand() {
    for (int types = 1; types <= 8; types++) {
      for (int t = -1; t <= types; t++) {
        for (int sort = -1; sort <= 6; sort++) {
          for (int a = -1; a <= 8; a++) {
            TypeSets x = Calls.ready(types);
            for (int b = -1; b <= 8; b++) anewOf(x, types, t, sort, a, b);
          }
        }
      }
    }
  }

  private static void anewOf(TypeSets x, int types, int t, int sort, int a, int b) {
    boolean told = t >= 0 && t < types && sort >= 0 && sort <= 5 && a >= 0 && b >= 0;
    boolean span = a <= b && b <= 3, any = a < types && b < types, lesser = a < t && b < t;
    boolean fits = told && (sort == 0 ? span : sort <= 2 ? any : lesser);
    int was = x.type(t, 0), acts = x.count(4);
    Check.due("anew " + t + " " + sort + " " + a + " " + b + " of " + types, x.anew(t, sort, a, b), fits ? was : Check.BAD);
    Check.due("acts", x.count(4), fits ? acts + 1 : acts);
    if (fits) is("anew", x, t, sort, a, b);
  }

  /** A type of pairs, functions may name itself and any behind it; it keeps its number. */
  private static void ofAnyNumberOfTypes() {
    TypeSets x = Check.told("s1;c0,0;c0,0;c0,0;c0,0;c0,0;c0,0;c0,0;c0,0;");
    for (int t = 0; t < 8; t++) {
      Check.due("pairs of the last", x.anew(t, 1, 7, 7), 0);
      Check.due("functions of itself", x.anew(t, 2, t, t), 1);
      Check.due("none of an eighth more", x.anew(t, 2, 8, 0), Check.BAD);
      Check.due("eight types", x.count(1), 8);
    }
    for (int t = 0; t < 8; t++) is("told anew", x, t, 2, t, t);
  }

  /** "A HOUSE that is read stands in place of the one before; no ACT can be undone"; on a FAULT "all stays". */
  private static void newHouse() {
    TypeSets x = acted(5);
    Check.due("a fault", Check.tell(x, "s2;c0,0;p9,9;"), -1000109);
    Check.due("acts stay", x.count(4), 5);
    isBehind(x, 5);
    Check.due("undo yet", x.undo(), 4);
    isBehind(x, 4);
    Check.due("a fault at the end", Check.tell(x, "s3;c0,0;p0,2;"), -1000113);
    isBehind(x, 4);
    Check.due("constants stay", x.count(2), 2);
    Check.due("a house", Check.tell(x, "s3;c0,0;"), 1);
    Check.due("no act", x.count(4), 0);
    Check.due("no act", x.undo(), Check.STATE);
    is("the new one", x, 0, 0, 0, 0);
    Check.due("none of the types before", x.type(1, 0), Check.BAD);
    Check.due("constants", x.count(2), 3);
  }

  /** "An IMAGE (0, 1) is kept of the HOUSE", each by itself, the later in place of the one before. */
  private static void images() {
    TypeSets x = Check.told("s1;c0,0;");
    Check.due("only the other", x.image(1), 1);
    Check.due("none was kept", x.restore(0), Check.STATE);
    Check.tell(x, "s2;c1,1;p0,0;");
    Check.due("the first", x.image(0), 1);
    Check.tell(x, "s3;f0,0;f1,1;f2,2;");
    x.anew(0, 0, 2, 2);
    Check.due("BAD", x.restore(2), Check.BAD);
    Check.due("BAD", x.restore(-1), Check.BAD);
    Check.due("acts stay", x.count(4), 1);
    Check.due("restore", x.restore(1), 1);
    Check.due("one type", x.count(1), 1);
    Check.due("no act can be undone", x.undo(), Check.STATE);
    is("of 1", x, 0, 0, 0, 0);
    Check.due("restore", x.restore(0), 1);
    Check.due("two types", x.count(1), 2);
    Check.due("two constants", x.count(2), 2);
    is("of 0", x, 0, 0, 1, 1);
    is("of 0", x, 1, 1, 0, 0);
    Check.due("kept anew", x.image(1), 1);
    Check.tell(x, "s4;c3,3;");
    Check.due("the later one", x.restore(1), 1);
    is("of 1 anew", x, 1, 1, 0, 0);
    Check.due("again", x.restore(1), 1);
    Check.due("it is lowest", x.lowest(2, 0), 2);
  }

  /** Rows, the tape, THE TRACE, the fault and status() are not the house's. */
  private static void imageIsOfTheHouseAlone() {
    TypeSets x = Check.told("s1;c0,0;u0,0;");
    x.image(0);
    x.row(2, 1, 7);
    x.feed('s');
    x.feed('2');
    x.ask(1, 0);
    x.as(0, 3);
    x.anew(0, 0, 1, 1);
    x.restore(0);
    Check.due("rows", x.count(0), 1);
    Check.due("bytes", x.count(5), 2);
    Check.due("trace", x.trace(0), 11);
    Check.due("status", x.status(), 3);
    Check.due("the text goes on", Check.tell(x, ";c0,0;"), 1);
    Check.due("constants", x.count(2), 2);
    Check.due("the image outlives the house", x.restore(0), 1);
    Check.due("types", x.count(1), 2);
    Check.due("seven items", x.drop(2), 7);
  }
}
