/** Each number that a call takes: just inside its bounds, just outside on either side, the ends of int. */
final class RangesTest {
  public static void main(String[] args) {
    for (int types = 1; types <= 8; types++) {
      for (Calls.Call call : Calls.all(types)) {
        for (Calls.Bound bound : call.bounds) numbers(types, call, bound);
      }
    }
    kindsTaken();
    tracePlaces();
    noHouse();
    Check.finish();
  }

  private static void numbers(int types, Calls.Call call, Calls.Bound bound) {
    for (int v : Calls.about(bound, call.good[bound.place])) {
      TypeSets x = Calls.ready(types);
      int got = call.with(x, bound.place, v);
      String told = types + " types: " + call.told(bound.place, v);
      if (v < bound.least) Check.due(told, got, bound.below);
      else if (v > bound.most) Check.due(told, got, bound.above);
      else Check.due(told + " is not refused: " + got, isRefusal(got) ? 1 : 0, 0);
    }
  }

  private static boolean isRefusal(int got) {
    return got >= Check.STORE && got <= Check.BAD;
  }

  /** as() of a KIND within the bounds may find KIND, but is not BAD. */
  private static void kindsTaken() {
    TypeSets x = Calls.ready(8);
    Calls.Bound bound = new Calls.Bound(1, 0, 5, Check.BAD, Check.BAD);
    for (int kind : Calls.about(bound, 0)) {
      int want = kind < 0 || kind > 5 ? Check.BAD : kind == 0 ? 0 : Check.KIND;
      Check.due("as 0 " + kind, x.as(0, kind), want);
    }
  }

  private static void tracePlaces() {
    TypeSets x = Calls.ready(8);
    Calls.Bound bound = new Calls.Bound(0, 0, 15, Check.NONE, Check.NONE);
    for (int i : Calls.about(bound, 0)) Check.due("no ask yet: trace " + i, x.trace(i), Check.NONE);
    x = Calls.ready(8);
    x.ask(0, 0);
    for (int i : Calls.about(bound, 0)) Check.due("trace " + i, x.trace(i), i == 0 ? 10 : Check.NONE);
  }

  /** Without a HOUSE there is no TYPE: BAD of any number, but STATE where that is told to be ahead. */
  private static void noHouse() {
    int[] any = {Calls.MIN, -2, -1, 0, 1, 7, 8, Calls.MAX};
    for (Calls.Call call : Calls.all(1)) {
      for (int v : any) {
        for (Calls.Bound bound : call.bounds) {
          int want = withoutHouse(call, v);
          if (want != 0) Check.due("no house: " + call.told(bound.place, v), call.with(new TypeSets(), bound.place, v), want);
        }
      }
    }
    Check.due("no house: empties", new TypeSets().empties(), Check.STATE);
    Check.due("no house: undo", new TypeSets().undo(), Check.STATE);
    Check.due("no house: house", new TypeSets().house(), -1000100);
    Check.due("no house: fault", new TypeSets().fault(), 0);
    Check.due("no house: status", new TypeSets().status(), 0);
    for (int what = 0; what < 6; what++) Check.due("no house: count " + what, new TypeSets().count(what), 0);
  }

  /** What is due of a new object; 0: nothing that has to do with a house. */
  private static int withoutHouse(Calls.Call call, int v) {
    switch (call.name) {
      case "lowest": case "cellAt": case "drawn": return Check.STATE;
      case "image": case "restore": return v == 0 || v == 1 ? Check.STATE : Check.BAD;
      case "row": case "set": case "copy": case "drop": case "feed": case "count": return 0;
      default: return Check.BAD;
    }
  }
}
