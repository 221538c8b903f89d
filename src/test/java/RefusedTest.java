import java.util.ArrayList;
import java.util.List;
import java.util.Set;

/**
 * "What is refused, or found, changes nothing but status()", and what is foretold changes nothing: two objects live
 * the same, one has the call besides, and then both are taken apart to the last act, image, byte and item.
 */
final class RefusedTest {
  private static final Set<String> FORETOLD = Set.of("type", "lowest", "lies", "others", "cellAt", "answers", "askable",
    "ends", "plain", "pick", "who", "drawn", "kind", "as", "count");
  private static final Set<String> WITH_STATUS = Set.of("row", "set", "copy", "drop", "who", "as");

  interface State {
    TypeSets made();
  }

  public static void main(String[] args) {
    State[] states = {TypeSets::new, RefusedTest::small, RefusedTest::full};
    String[] names = {"new", "small", "full"};
    int[] types = {1, 3, 8};
    for (int k = 0; k < states.length; k++) {
      for (Calls.Call call : every(types[k])) {
        for (int place = 0; place < call.good.length; place++) {
          for (int v : numbers(call, place)) twins(names[k], states[k], call, place, v);
        }
        if (call.good.length == 0) twins(names[k], states[k], call, -1, 0);
      }
      Check.due("refused of state " + names[k], refused > 100 * (k + 1) ? 1 : 0, 1);
    }
    named();
    Check.finish();
  }

  private static int refused = 0;

  private static List<Calls.Call> every(int types) {
    List<Calls.Call> all = new ArrayList<>(Calls.all(types));
    Calls.Made copy = (x, n) -> x.copy(n[0], n[1], n[2], n[3], n[4]);
    all.add(new Calls.Call("copy", copy, 0, 0, 1, 0, 1));
    all.add(new Calls.Call("copy", copy, 0, 0, 5, 0, 1));
    all.add(new Calls.Call("as", (x, n) -> x.as(n[0], n[1]), 0, 1));
    all.add(new Calls.Call("empties", (x, n) -> x.empties()));
    all.add(new Calls.Call("fault", (x, n) -> x.fault()));
    all.add(new Calls.Call("status", (x, n) -> x.status()));
    all.add(new Calls.Call("undo", (x, n) -> x.undo()));
    all.add(new Calls.Call("trace", (x, n) -> x.trace(n[0]), 0));
    return all;
  }

  private static Set<Integer> numbers(Calls.Call call, int place) {
    Set<Integer> all = new java.util.TreeSet<>(Set.of(Calls.MIN, -2, -1, 0, 1, 5, 8, 41, Calls.MAX));
    for (Calls.Bound b : call.bounds) {
      if (b.place == place) all.addAll(List.of(b.least, b.most));
      if (b.place == place && b.least != Calls.MIN) all.add(b.least - 1);
      if (b.place == place && b.most != Calls.MAX) all.add(b.most + 1);
    }
    return all;
  }

  private static void twins(String name, State state, Calls.Call call, int place, int v) {
    TypeSets x = state.made(), y = state.made();
    int got = place < 0 ? call.made.on(x, call.good) : call.with(x, place, v);
    boolean found = got >= Check.STORE && got <= Check.NULL;
    boolean isRefused = got >= TypeSets.FULL && got <= TypeSets.BAD;
    boolean foretold = FORETOLD.contains(call.name) || List.of("empties", "fault", "status", "trace").contains(call.name);
    if (!found && !isRefused && !foretold) return;
    refused++;
    String told = name + ": " + call.told(place, v) + " answering " + got;
    boolean leavesStatus = isRefused || !WITH_STATUS.contains(call.name);
    Check.due("status behind " + told, x.status(), leavesStatus ? y.status() : found ? -1000010 - got : 0);
    String one = takenApart(x), other = takenApart(y);
    if (!one.equals(other)) System.out.println(one + "\n" + other);
    Check.due("nothing has changed by " + told, one.equals(other) ? 1 : 0, 1);
  }

  /** Three types, two rows of two lanes, a text begun, two acts, one image, a trace, a fault, a finding. */
  private static TypeSets small() {
    TypeSets x = Check.told("s2;c0,1;p0,1;f0,1;");
    Check.tell(x, "s9");
    x.row(0, 1, 3);
    x.row(1, 2, 5);
    x.set(0, 0, 1);
    x.set(1, 4, 1);
    x.anew(0, 0, 0, 0);
    x.anew(2, 5, 0, 1);
    x.image(1);
    x.anew(1, 1, 0, 0);
    for (char c : "s3;f0,".toCharArray()) x.feed(c);
    x.ask(2, 0);
    x.drop(7);
    return x;
  }

  /** As much of all as there is room for. */
  private static TypeSets full() {
    TypeSets x = Check.told("s4;c0,3;p7,0;f0,1;u0,1;b3,0;l3,0;f2,2;p6,6;");
    for (int row = 0; row < 8; row++) {
      x.row(row, row < 4 ? 0 : 2, 40);
      x.set(row, row % 2 * 39, row + 1);
    }
    x.image(0);
    for (int k = 0; k < 26; k++) x.anew(k % 8, k % 3, k % 4, 3);
    x.image(1);
    x.anew(7, 4, 3, 2);
    for (char c : "s3;c0,0;c0,0;c0,0;c0,0;c0,0;c0,0;c0,0;c0,0;b".toCharArray()) x.feed(c);
    for (int k = 44; k < 80; k++) x.feed('0');
    x.ask(7, 0);
    x.row(3, 0, -1);
    return x;
  }

  /** Everything that can be got out of an object, in fewer calls than it has left; there is nothing left of it then. */
  private static String takenApart(TypeSets x) {
    StringBuilder s = new StringBuilder("fault " + x.fault() + " counts");
    for (int what = 0; what < 6; what++) s.append(' ').append(x.count(what));
    s.append(" trace");
    for (int i = 0; i < 7; i++) s.append(' ').append(x.trace(i));
    house(x, s.append(" now "));
    for (int k = 0; k < 26; k++) {
      s.append(" undo ").append(x.undo());
      for (int what = 0; what < 3; what++) s.append(' ').append(x.type(Math.floorMod(2 - k, 8), what));
    }
    house(x, s.append(" first "));
    for (int k = 0; k < 2; k++) {
      s.append(" restore ").append(x.restore(k));
      house(x, s);
    }
    x.feed('0');
    x.feed(';');
    s.append(" text ").append(x.house()).append(" fault ").append(x.fault());
    house(x, s);
    if (x.count(1) == 0) Check.tell(x, "s1;c0,0;");
    for (int row = 0; row < 8; row++) items(x, row, s.append(" row "));
    return s.toString();
  }

  private static void house(TypeSets x, StringBuilder s) {
    int types = x.count(1);
    s.append(x.count(2)).append(':');
    for (int t = 0; t < types; t++) {
      s.append(' ').append("cpfubl".charAt(x.type(t, 0))).append(x.type(t, 1)).append(x.type(t, 2));
    }
    s.append(" empty ").append(x.empties()).append(" cells ").append(x.cellAt(-1));
  }

  private static void items(TypeSets x, int row, StringBuilder s) {
    for (int i : new int[] {0, 4, 39}) s.append(' ').append(x.who(0, 0, row, i, 1));
    s.append(' ').append(x.set(row, 0, 40000)).append(' ').append(x.drop(row));
  }

  private static void is(String call, TypeSets x, int got, int want, int status) {
    Check.due(call, got, want);
    Check.due("status behind " + call, x.status(), status);
  }

  /** Each finding by its number, and each refusal that leaves status() as it is. */
  private static void named() {
    TypeSets x = small();
    is("NULL", x, x.set(5, 0, 0), -1000010 - 1, 1);
    is("PLACE", x, x.set(0, 3, 0), -1000010 - 2, 2);
    is("KIND", x, x.as(0, 5), -1000010 - 3, 3);
    is("SIZE", x, x.row(0, 0, -1), -1000010 - 4, 4);
    is("STORE", x, x.copy(0, 0, 1, 0, 0), -1000010 - 5, 5);
    is("BAD", x, x.set(8, 0, 0), -1000001, 5);
    is("STATE", x, x.restore(0), -1000002, 5);
    is("none", x, x.copy(0, 0, 0, 0, 0), 0, 0);
    TypeSets y = full();
    is("FULL", y, y.feed('0'), -1000003, 4);
    is("NONE", y, y.trace(16), -1000000, 4);
  }
}
