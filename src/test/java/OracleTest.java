import java.util.ArrayList;
import java.util.List;
import java.util.Map;
import java.util.Random;
import java.util.TreeSet;

/** Houses by chance: promises 12 to 23 against the model, and against values told one by one. */
final class OracleTest {
  public static void main(String[] args) {
    int houses = args.length > 0 ? Integer.parseInt(args[0]) : 400;
    long seed = args.length > 1 ? Long.parseLong(args[1]) : 1;
    Random r = new Random(seed);
    for (int k = 0; k < houses; k++) {
      Model m = Model.random(r, 1 + r.nextInt(8));
      TypeSets x = Check.told(m.text());
      relations(m, x, r);
      cells(m, x);
      functions(m, x);
      plain(m, x);
      search(m, x, r);
    }
    for (int k = 0; k < houses / 8; k++) {
      Model m = Model.random(r, 1 + r.nextInt(8));
      if (m.constants <= 2) values(m, Check.told(m.text()), r);
    }
    Check.finish();
  }

  private static void relations(Model m, TypeSets x, Random r) {
    String of = m.text() + " ";
    for (int t = 0; t < m.types; t++) {
      Check.due(of + "others " + t + " 0", x.others(t, 0), m.supers(t));
      Check.due(of + "others " + t + " 1", x.others(t, 1), m.alike(t));
      Check.due(of + "others " + t + " 2", x.others(t, 2), m.apart(t));
      for (int o = 0; o < m.types; o++) Check.due(of + "lies " + t + " " + o, x.lies(t, o), m.lies(t, o) ? 1 : 0);
    }
    Check.due(of + "empties", x.empties(), m.empties());
    Check.due(of + "count 3", x.count(3), Integer.bitCount(m.empties()));
    for (int k = 0; k < 20; k++) {
      int p = r.nextInt(1 << m.types) & r.nextInt(1 << m.types), n = r.nextInt(1 << m.types) & r.nextInt(1 << m.types);
      Check.due(of + "lowest " + p + " " + n, x.lowest(p, n), m.lowest(p, n));
    }
  }

  private static void cells(Model m, TypeSets x) {
    String of = m.text() + " ";
    Check.due(of + "cells", x.cellAt(-1), m.cells().size());
    int k = 0;
    for (Map.Entry<Integer, Integer> e : m.cells().entrySet()) {
      Check.due(of + "cell " + k, x.cellAt(k++), e.getKey());
      int all = (1 << m.types) - 1;
      Check.due(of + "lowest of just " + e.getKey(), x.lowest(e.getKey(), all & ~e.getKey()), e.getValue());
    }
    Check.due(of + "cell behind the last", x.cellAt(k), TypeSets.NONE);
  }

  private static void functions(Model m, TypeSets x) {
    String of = m.text() + " ";
    boolean small = m.cells().size() <= 40;
    for (int t = 0; t < m.types && small; t++) {
      for (int o = 0; o < m.types; o++) Check.due(of + "answers " + t + " " + o, x.answers(t, o), m.answers(t, o));
      Check.due(of + "askable " + t, x.askable(t), m.askable(t));
    }
    for (int t = 0; t < m.types; t++) {
      for (int side = 0; side < 2; side++) Check.due(of + "ends " + t + " " + side, x.ends(t, side), m.ends(t, side));
    }
  }

  private static void plain(Model m, TypeSets x) {
    String of = m.text() + " ";
    for (int h = 1; h <= 4; h++) {
      int[] cells = m.plainCells(h);
      for (int t = 0; t < m.types; t++) {
        int n = 0;
        for (int cell : cells) n += cell >> t & 1;
        Check.due(of + "plain " + t + " " + h, x.plain(t, h), n);
        int above = x.pick(t, h, 0), below = x.pick(t, h, 1);
        Check.due(of + "pick " + t + " " + h, (long) above * cells.length, (long) below * n);
        Check.due(of + "pick " + t + " " + h + " in lowest terms", java.math.BigInteger.valueOf(above).gcd(java.math.BigInteger.valueOf(below)).intValue(), 1);
      }
    }
  }

  private static void search(Model m, TypeSets x, Random r) {
    String of = m.text() + " ";
    x.row(3, 2, 20);
    for (int k = 0; k < 4; k++) {
      int t = r.nextInt(m.types), which = r.nextInt(3), n = 1 + r.nextInt(m.types), i = r.nextInt(21 - n);
      int[] wanted = new int[n];
      Model like = m;
      int v = r.nextInt(8);
      if (which == 1 && m.mayStand(t, m.sort[t], v, m.b[t])) like = m.with(t, m.sort[t], v, m.b[t]);
      for (int o = 0; o < n; o++) wanted[o] = like.lies(o, t) ? 1 + r.nextInt(9) - 5 : 0;
      for (int o = 0; o < n; o++) x.set(3, i + o, wanted[o]);
      Check.due(of + "who " + t + " " + which, x.who(t, which, 3, i, n), m.who(t, which, wanted));
      int draws = r.nextInt(21), seed = 1 + r.nextInt(999999), what = r.nextInt(2);
      Check.due(of + "drawn " + draws + " " + seed + " " + what, x.drawn(draws, seed, what), m.drawn(draws, seed, what));
    }
  }

  /** All values of height 2 or less, and some of height 3, each looked at as it is. */
  private static void values(Model m, TypeSets x, Random r) {
    String of = m.text() + " ";
    List<Model.Value> one = m.above(new ArrayList<>());
    List<Model.Value> two = m.above(one);
    TreeSet<Integer> low = new TreeSet<>();
    for (Model.Value v : one) {
      Check.due(of + "height of a value", v.height(), 1);
      low.add(m.cellOf(v));
    }
    hasJust(m, x, low, 1);
    for (Model.Value v : two) low.add(m.cellOf(v));
    hasJust(m, x, low, 2);
    List<Model.Value[]> cases = new ArrayList<>();
    for (int k = 0; k < 30; k++) {
      Model.Value to = r.nextInt(4) == 0 ? null : two.get(r.nextInt(two.size()));
      cases.add(new Model.Value[] {two.get(r.nextInt(two.size())), to});
    }
    for (int k = 0; k < 200; k++) {
      List<Model.Value[]> some = new ArrayList<>();
      for (int c = r.nextInt(4); c > 0; c--) some.add(cases.get(r.nextInt(cases.size())));
      Model.Value f = Model.Value.function(some);
      int cell = m.cellOf(f), all = (1 << m.types) - 1;
      int least = x.lowest(cell, all & ~cell);
      Check.due(of + "lowest of the cell of a value", least >= 1 && least <= f.height() ? 1 : 0, 1);
      heldCases(m, x, some, cell);
    }
  }

  private static void hasJust(Model m, TypeSets x, TreeSet<Integer> cells, int height) {
    int all = (1 << m.types) - 1;
    for (int cell = 0; cell <= all; cell++) {
      int least = x.lowest(cell, all & ~cell);
      Check.due(m.text() + " height " + height + " cell " + cell, least >= 1 && least <= height ? 1 : 0, cells.contains(cell) ? 1 : 0);
    }
  }

  private static void heldCases(Model m, TypeSets x, List<Model.Value[]> cases, int cell) {
    for (int f = 0; f < m.types; f++) {
      if (!Model.in(cell, f)) continue;
      for (Model.Value[] one : cases) {
        int from = m.cellOf(one[0]), to = one[1] == null ? 0 : m.cellOf(one[1]);
        for (int a = 0; a < m.types; a++) {
          if (!Model.in(from, a)) continue;
          Check.due(m.text() + " an answer is held", x.answers(f, a) & ~to, 0);
          if (one[1] == null) Check.due(m.text() + " no answer is not askable", x.askable(f) >> a & 1, 0);
        }
      }
    }
  }
}
