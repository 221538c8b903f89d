import java.util.ArrayDeque;
import java.util.ArrayList;
import java.util.HashSet;
import java.util.List;
import java.util.Random;
import java.util.Set;
import java.util.TreeMap;
import java.util.TreeSet;

/** The document's words once more, as plainly as can be and by other ways than the class goes. */
final class Model {
  final int constants;
  final int types;
  final int[] sort, a, b;
  /** Each cell with its least height. */
  TreeMap<Integer, Integer> cells;

  Model(int constants, int[] sort, int[] a, int[] b) {
    this.constants = constants;
    this.types = sort.length;
    this.sort = sort;
    this.a = a;
    this.b = b;
  }

  static Model random(Random r, int types) {
    Model m = new Model(1 + r.nextInt(4), new int[types], new int[types], new int[types]);
    int bias = r.nextInt(4);
    for (int t = 0; t < types; t++) {
      do {
        m.sort[t] = bias == 0 ? r.nextInt(6) : bias == 1 ? 1 + r.nextInt(2) : bias == 2 ? (r.nextBoolean() ? 2 : r.nextInt(6)) : r.nextInt(10) % 6;
        m.a[t] = r.nextInt(8);
        m.b[t] = r.nextInt(8);
      } while (!m.mayStand(t, m.sort[t], m.a[t], m.b[t]));
    }
    return m;
  }

  Model with(int t, int s, int na, int nb) {
    Model m = new Model(constants, sort.clone(), a.clone(), b.clone());
    m.sort[t] = s;
    m.a[t] = na;
    m.b[t] = nb;
    return m;
  }

  boolean mayStand(int t, int s, int na, int nb) {
    if (s == 0) return 0 <= na && na <= nb && nb <= 3;
    int beyond = s <= 2 ? types : t;
    return na >= 0 && nb >= 0 && na < beyond && nb < beyond;
  }

  String text() {
    StringBuilder s = new StringBuilder("s" + constants + ";");
    for (int t = 0; t < types; t++) s.append("cpfubl".charAt(sort[t])).append(a[t]).append(',').append(b[t]).append(';');
    return s.toString();
  }

  static boolean in(int cell, int t) {
    return (cell >> t & 1) != 0;
  }

  /** The types that unions, both and less add to those of a value that stand by themselves. */
  int whole(int cell) {
    boolean[] is = new boolean[types];
    int all = 0;
    for (int t = 0; t < types; t++) {
      if (sort[t] <= 2) is[t] = in(cell, t);
      else if (sort[t] == 3) is[t] = is[a[t]] || is[b[t]];
      else if (sort[t] == 4) is[t] = is[a[t]] && is[b[t]];
      else is[t] = is[a[t]] && !is[b[t]];
      if (is[t]) all |= 1 << t;
    }
    return all;
  }

  int ofConstant(int c) {
    int cell = 0;
    for (int t = 0; t < types; t++) if (sort[t] == 0 && a[t] <= c && c <= b[t]) cell |= 1 << t;
    return whole(cell);
  }

  int ofPair(int first, int second) {
    int cell = 0;
    for (int t = 0; t < types; t++) if (sort[t] == 1 && in(first, a[t]) && in(second, b[t])) cell |= 1 << t;
    return whole(cell);
  }

  /** The function types that are left of some by a case; to is -1 for no answer. */
  int left(int arrows, int from, int to) {
    int cell = arrows;
    for (int t = 0; t < types; t++) {
      if (sort[t] == 2 && in(from, a[t]) && (to == -1 || !in(to, b[t]))) cell &= ~(1 << t);
    }
    return cell;
  }

  int arrows() {
    int cell = 0;
    for (int t = 0; t < types; t++) if (sort[t] == 2) cell |= 1 << t;
    return cell;
  }

  /** The sets of function types that functions can have that begin with one such set and have any cases more. */
  Set<Integer> functions(int start, Set<Integer> values) {
    Set<Integer> seen = new HashSet<>();
    ArrayDeque<Integer> queue = new ArrayDeque<>();
    seen.add(start);
    queue.add(start);
    while (!queue.isEmpty()) {
      int now = queue.remove();
      for (int from : values) {
        if (seen.add(left(now, from, -1))) queue.add(left(now, from, -1));
        for (int to : values) if (seen.add(left(now, from, to))) queue.add(left(now, from, to));
      }
    }
    return seen;
  }

  TreeMap<Integer, Integer> cells() {
    if (cells != null) return cells;
    cells = new TreeMap<>();
    Set<Integer> lower = new TreeSet<>();
    for (int h = 1; ; h++) {
      Set<Integer> next = new TreeSet<>();
      for (int c = 0; c < constants; c++) next.add(ofConstant(c));
      for (int s : lower) for (int r : lower) next.add(ofPair(s, r));
      for (int f : functions(arrows(), lower)) next.add(whole(f));
      for (int cell : next) cells.putIfAbsent(cell, h);
      if (next.equals(lower)) return cells;
      lower = next;
    }
  }

  int lowest(int p, int n) {
    int least = TypeSets.NONE;
    for (int cell : cells().keySet()) {
      if ((cell & p) == p && (cell & n) == 0 && (least == TypeSets.NONE || cells.get(cell) < least)) least = cells.get(cell);
    }
    return least;
  }

  boolean lies(int s, int t) {
    return lowest(1 << s, 1 << t) == TypeSets.NONE;
  }

  boolean empty(int t) {
    return lowest(1 << t, 0) == TypeSets.NONE;
  }

  int supers(int t) {
    int bits = 0;
    for (int o = 0; o < types; o++) if (lies(t, o)) bits |= 1 << o;
    return bits;
  }

  int alike(int t) {
    int bits = 0;
    for (int o = 0; o < types; o++) if (lies(t, o) && lies(o, t)) bits |= 1 << o;
    return bits;
  }

  int apart(int t) {
    int bits = 0;
    for (int o = 0; o < types; o++) if (lowest(1 << t | 1 << o, 0) == TypeSets.NONE) bits |= 1 << o;
    return bits;
  }

  int empties() {
    int bits = 0;
    for (int o = 0; o < types; o++) if (empty(o)) bits |= 1 << o;
    return bits;
  }

  boolean hasConstant(int t) {
    for (int c = 0; c < constants; c++) if (in(ofConstant(c), t)) return true;
    return false;
  }

  boolean hasPair(int t) {
    for (int s : cells().keySet()) for (int r : cells().keySet()) if (in(ofPair(s, r), t)) return true;
    return false;
  }

  boolean hasFunction(int t) {
    for (int f : functions(arrows(), cells().keySet())) if (in(whole(f), t)) return true;
    return false;
  }

  /** Whether a function of f can have a case. */
  boolean canHave(int f, int from, int to) {
    for (int g : functions(left(arrows(), from, to), cells().keySet())) if (in(whole(g), f)) return true;
    return false;
  }

  int answers(int f, int by) {
    int bits = 0;
    for (int t = 0; t < types; t++) {
      boolean held = !hasConstant(f) && !hasPair(f);
      for (int from : cells().keySet()) {
        if (!held || !in(from, by)) continue;
        if (canHave(f, from, -1)) held = false;
        for (int to : cells().keySet()) if (held && !in(to, t) && canHave(f, from, to)) held = false;
      }
      if (held) bits |= 1 << t;
    }
    return bits;
  }

  int askable(int f) {
    int bits = 0;
    for (int t = 0; t < types; t++) {
      boolean held = !hasConstant(f) && !hasPair(f);
      for (int from : cells().keySet()) if (held && in(from, t) && canHave(f, from, -1)) held = false;
      if (held) bits |= 1 << t;
    }
    return bits;
  }

  int ends(int t, int side) {
    int bits = 0;
    for (int o = 0; o < types; o++) {
      boolean held = !hasConstant(t) && !hasFunction(t);
      for (int s : cells().keySet()) {
        for (int r : cells().keySet()) {
          if (in(ofPair(s, r), t) && !in(side == 0 ? s : r, o)) held = false;
        }
      }
      if (held) bits |= 1 << o;
    }
    return bits;
  }

  /** The cells of all plain values of a height or less, each value by itself. */
  int[] plainCells(int h) {
    if (h == 0) return new int[0];
    int[] lower = plainCells(h - 1);
    int[] all = new int[constants + lower.length * lower.length];
    int k = 0;
    for (int c = 0; c < constants; c++) all[k++] = ofConstant(c);
    for (int s : lower) for (int r : lower) all[k++] = ofPair(s, r);
    return all;
  }

  int who(int t, int which, int[] wanted) {
    int bits = 0;
    for (int v = 0; v < (which == 0 ? 6 : 8); v++) {
      int s = which == 0 ? v : sort[t], na = which == 1 ? v : a[t], nb = which == 2 ? v : b[t];
      if (!mayStand(t, s, na, nb)) continue;
      Model m = with(t, s, na, nb);
      boolean fits = true;
      for (int o = 0; o < wanted.length; o++) if (m.lies(o, t) != (wanted[o] != 0)) fits = false;
      if (fits) bits |= 1 << v;
    }
    return bits;
  }

  int drawn(int n, int seed, int what) {
    Model m = this;
    long x = seed;
    for (int k = 0; k < n; k++) {
      x = x * 16807 % 2147483647L;
      int t = (int) (x % types), s = (int) (x / 8 % 6), na = (int) (x / 64 % 8), nb = (int) (x / 512 % 8);
      if (m.mayStand(t, s, na, nb)) m = m.with(t, s, na, nb);
    }
    return what == 0 ? types - Integer.bitCount(m.empties()) : m.cells().size();
  }

  // ---- values themselves

  /** A VALUE: a constant, a pair of two parts, or a function whose cases are two parts each (null: no answer). */
  static final class Value {
    final int constant;
    final List<Value[]> parts;
    final boolean function;

    private Value(int constant, List<Value[]> parts, boolean function) {
      this.constant = constant;
      this.parts = parts;
      this.function = function;
    }

    static Value constant(int c) {
      return new Value(c, List.of(), false);
    }

    static Value pair(Value first, Value second) {
      return new Value(-1, List.<Value[]>of(new Value[] {first, second}), false);
    }

    static Value function(List<Value[]> cases) {
      return new Value(-1, cases, true);
    }

    int height() {
      int most = 0;
      for (Value[] part : parts) for (Value v : part) if (v != null) most = Math.max(most, v.height());
      return most + 1;
    }
  }

  boolean of(Value v, int t) {
    switch (sort[t]) {
      case 0:
        return v.constant >= a[t] && v.constant <= b[t];
      case 1:
        return v.constant < 0 && !v.function && of(v.parts.get(0)[0], a[t]) && of(v.parts.get(0)[1], b[t]);
      case 2:
        if (!v.function) return false;
        for (Value[] one : v.parts) if (of(one[0], a[t]) && (one[1] == null || !of(one[1], b[t]))) return false;
        return true;
      case 3:
        return of(v, a[t]) || of(v, b[t]);
      case 4:
        return of(v, a[t]) && of(v, b[t]);
      default:
        return of(v, a[t]) && !of(v, b[t]);
    }
  }

  int cellOf(Value v) {
    int cell = 0;
    for (int t = 0; t < types; t++) if (of(v, t)) cell |= 1 << t;
    return cell;
  }

  /** All values whose parts are some values; functions by every set of cases. */
  List<Value> above(List<Value> lower) {
    List<Value> all = new ArrayList<>();
    for (int c = 0; c < constants; c++) all.add(Value.constant(c));
    for (Value s : lower) for (Value r : lower) all.add(Value.pair(s, r));
    List<Value[]> cases = cases(lower);
    for (int bits = 0; bits < 1 << cases.size(); bits++) {
      List<Value[]> some = new ArrayList<>();
      for (int k = 0; k < cases.size(); k++) if ((bits >> k & 1) != 0) some.add(cases.get(k));
      all.add(Value.function(some));
    }
    return all;
  }

  static List<Value[]> cases(List<Value> lower) {
    List<Value[]> cases = new ArrayList<>();
    for (Value s : lower) {
      cases.add(new Value[] {s, null});
      for (Value r : lower) cases.add(new Value[] {s, r});
    }
    return cases;
  }
}
