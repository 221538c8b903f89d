import java.math.BigInteger;
import java.util.Map;

/** VALUES, HEIGHTS, CELLS and what is foretold at their bounds: promises 12 to 23. */
final class ValuesEdgesTest {
  /** Seven function types that have every set of them, and pairs: no house has more cells. */
  private static final String MOST_CELLS = "s3;f2,3;f2,2;f0,5;f4,1;f6,3;f1,5;p2,3;f1,1;";
  /** A house with a cell at each height from 1 to 21. */
  private static final String HIGHEST = "s3;f4,5;f3,4;f6,7;f7,3;f2,4;l3,3;f0,4;f1,7;";

  public static void main(String[] args) {
    heightsOfPairs();
    heightsOfFunctions();
    casesFromOneValue();
    noAnswer();
    setsOfTypes();
    allEmpty();
    oneType();
    spansBeyondTheConstants();
    asModel(MOST_CELLS, 129, -1);
    asModel(HIGHEST, -1, 21);
    cellPlaces();
    answersOfEmptyOnes();
    endsOfEmptyOnes();
    plainHeights();
    fractions();
    everySortFits();
    rowsThatTell();
    draws();
    Check.finish();
  }

  private static Model model(String text) {
    Reading told = new Reading(text);
    int n = told.types.size();
    int[] sort = new int[n], a = new int[n], b = new int[n];
    for (int t = 0; t < n; t++) {
      sort[t] = told.types.get(t)[0];
      a[t] = told.types.get(t)[1];
      b[t] = told.types.get(t)[2];
    }
    return new Model(told.constants, sort, a, b);
  }

  /** "of a PAIR 1 more than the greater one of its two", whichever that is. */
  private static void heightsOfPairs() {
    TypeSets x = Check.told("s1;c0,0;p0,0;p1,0;p0,1;p1,1;p2,0;p0,2;p5,6;");
    int[] want = {1, 2, 3, 3, 3, 4, 4, 5};
    for (int t = 0; t < 8; t++) Check.due("lowest of " + t, x.lowest(1 << t, 0), want[t]);
  }

  /** 0: {0}; 1: a pair; 2: none; 3: any function; 4: none from the pair; 5: from 0 to pairs; 6: none from 0; 7: pairs of the pair. */
  private static void heightsOfFunctions() {
    TypeSets x = Check.told("s1;c0,0;p0,0;l0,0;f2,0;f1,2;f0,1;f0,2;p1,1;");
    Check.due("1, if it has none", x.lowest(8, 0), 1);
    Check.due("none is of each", x.lowest(8 | 16 | 32 | 64, 0), 1);
    Check.due("from 0 to no answer", x.lowest(8, 32), 2);
    Check.due("from a pair to no answer", x.lowest(8, 16), 3);
    Check.due("from 0 to a pair", x.lowest(32, 64), 3);
    Check.due("from 0 to a pair, and from a pair", x.lowest(32, 64 | 16), 3);
    Check.due("from 0 to no pair", x.lowest(8 | 16, 32), 2);
    TypeSets y = Check.told("s1;c0,0;p0,0;p1,1;l0,0;f3,0;f0,2;f0,3;");
    Check.due("from 0 to a pair of pairs", y.lowest(32, 64), 4);
  }

  /** "from one VALUE there may be several": to 0 and to 1 is to {0, 1}, but neither to {0} nor to {1}. */
  private static void casesFromOneValue() {
    TypeSets x = Check.told("s2;c0,0;c1,1;c0,1;f0,0;f0,1;f0,2;u3,4;");
    Check.due("a function of two cases from 0", x.lowest(32, 8 | 16), 2);
    Check.due("to one or the other does not hold it", x.lies(5, 6), 0);
    Check.due("but the other way round", x.lies(6, 5), 1);
    Check.due("to neither {0} nor {1}, but not to no answer", x.lowest(32, 64), 2);
    Check.due("answers", x.answers(5, 0), 4);
    Check.due("one case from 0 can be to both alike", x.lowest(8 | 16, 0), 1);
  }

  /** "to a VALUE OF B (not to no answer)"; 0: {0}; 1: pairs; 2: functions; 4: all values; 5: none; 6: all to all; 7: 2 less 6. */
  private static void noAnswer() {
    TypeSets x = Check.told("s1;c0,0;p4,4;f5,0;u0,1;u3,2;l0,0;f4,4;l2,6;");
    Check.due("all values are of 4", x.lowest(0, 16), Check.NONE);
    Check.due("only no answer is not of 4", x.lowest(4, 64), 2);
    Check.due("the same by less", x.lowest(128, 0), 2);
    Check.due("functions that answer are not all", x.lies(2, 6), 0);
    Check.due("what always answers can be asked all", x.askable(6), 255);
    Check.due("a function can be asked nothing", x.askable(2), 32);
    Check.due("nor one that has no answer once", x.askable(7), 32);
    Check.due("all answers are values", x.answers(6, 4), 16);
    Check.due("no answer is of no type", x.answers(2, 4), 0);
    Check.due("no case is from none", x.answers(2, 5), 255);
  }

  /** "a TYPE of both: there are none; P of no TYPES: of any". */
  private static void setsOfTypes() {
    for (int types = 1; types <= 8; types++) {
      TypeSets x = Calls.ready(types);
      int all = (1 << types) - 1;
      Check.due("any value", x.lowest(0, 0), 1);
      for (int t = 0; t < types; t++) {
        Check.due("a type of both", x.lowest(1 << t, 1 << t), Check.NONE);
        Check.due("a type of both, and all", x.lowest(all, 1 << t), Check.NONE);
        Check.due("a type of both, and all", x.lowest(1 << t, all), Check.NONE);
        Check.due("lies in itself", x.lies(t, t), 1);
      }
      Check.due("all and none", x.lowest(all, all), Check.NONE);
      Check.due("beyond", x.lowest(all + 1, 0), Check.BAD);
      Check.due("beyond", x.lowest(0, all + 1), Check.BAD);
      Check.due("a type of both, one beyond", x.lowest(all + 1, all + 1), Check.BAD);
      Check.due("below", x.lowest(-1, 0), Check.BAD);
      Check.due("below", x.lowest(0, -1), Check.BAD);
    }
  }

  /** Types without any value: each LIES IN all, is ALIKE with all, APART from all, also from itself. */
  private static void allEmpty() {
    String[] texts = {"s1;c1,3;", "s3;c3,3;p0,1;", "s1;p0,0;p0,1;p2,2;u0,1;b2,0;l1,0;p7,0;c2,3;"};
    for (String text : texts) {
      TypeSets x = Check.told(text);
      int types = x.count(1), all = (1 << types) - 1;
      Check.due("empties", x.empties(), all);
      Check.due("how many", x.count(3), types);
      Check.due("one cell, that of no types", x.cellAt(-1), 1);
      Check.due("it is", x.cellAt(0), 0);
      Check.due("no more", x.cellAt(1), Check.NONE);
      for (int t = 0; t < types; t++) {
        for (int what = 0; what < 3; what++) Check.due("others " + t + " " + what, x.others(t, what), all);
        Check.due("lowest", x.lowest(1 << t, 0), Check.NONE);
        Check.due("askable", x.askable(t), all);
        for (int o = 0; o < types; o++) Check.due("answers", x.answers(t, o), all);
        for (int side = 0; side < 2; side++) Check.due("ends", x.ends(t, side), all);
        for (int h = 1; h <= 4; h++) Check.due("plain", x.plain(t, h), 0);
      }
    }
  }

  /** A house of one type: it alone is all bits. */
  private static void oneType() {
    TypeSets span = Check.told("s1;c0,0;");
    Check.due("cells", span.cellAt(-1), 2);
    Check.due("supers", span.others(0, 0), 1);
    Check.due("alike", span.others(0, 1), 1);
    Check.due("apart", span.others(0, 2), 0);
    TypeSets arrow = Check.told("s1;f0,0;");
    Check.due("of a function it can be asked", arrow.askable(0), 1);
    Check.due("its answers", arrow.answers(0, 0), 1);
    Check.due("empty", arrow.empties(), 0);
    Check.due("cells", arrow.cellAt(-1), 2);
    TypeSets pair = Check.told("s1;p0,0;");
    Check.due("a tree without end is none", pair.empties(), 1);
  }

  /** A span may reach beyond the CONSTANTS there are: only those are values. */
  private static void spansBeyondTheConstants() {
    for (int constants = 1; constants <= 4; constants++) {
      for (int a = 0; a <= 3; a++) {
        for (int b = a; b <= 3; b++) {
          TypeSets x = Check.told("s" + constants + ";c" + a + "," + b + ";");
          int n = Math.max(0, Math.min(b, constants - 1) - a + 1);
          Check.due("plain", x.plain(0, 1), n);
          Check.due("empty", x.empties(), n == 0 ? 1 : 0);
          Check.due("lowest", x.lowest(1, 0), n == 0 ? Check.NONE : 1);
          Check.due("lowest of the others", x.lowest(0, 1), 1);
        }
      }
    }
  }

  /** All cells and heights as the model has them; how many there are and how high the highest is, if told. */
  private static void asModel(String text, int cells, int height) {
    Model m = model(text);
    TypeSets x = Check.told(text);
    int all = (1 << m.types) - 1, k = 0, most = 0;
    for (Map.Entry<Integer, Integer> e : m.cells().entrySet()) {
      Check.due("cell " + k, x.cellAt(k++), e.getKey());
      Check.due("lowest of just " + e.getKey(), x.lowest(e.getKey(), all & ~e.getKey()), e.getValue());
      most = Math.max(most, e.getValue());
    }
    Check.due("not so many", x.cellAt(k), Check.NONE);
    Check.due("cells", x.cellAt(-1), cells < 0 ? k : cells);
    Check.due("the highest", most, height < 0 ? most : height);
    for (int t = 0; t < m.types; t++) {
      Check.due("supers", x.others(t, 0), m.supers(t));
      Check.due("apart", x.others(t, 2), m.apart(t));
      for (int side = 0; side < 2; side++) Check.due("ends", x.ends(t, side), m.ends(t, side));
    }
  }

  /** "the k-th (0 on; NONE: not so many)", "BAD: k below -1". */
  private static void cellPlaces() {
    TypeSets x = Check.told(MOST_CELLS);
    int before = -1;
    for (int k = 0; k < 129; k++) {
      int cell = x.cellAt(k);
      Check.due("the least number first", cell > before && cell < 256 ? 1 : 0, 1);
      before = cell;
    }
    int[] none = {129, 130, 255, 256, 257, 65536, Integer.MAX_VALUE};
    for (int k : none) Check.due("cellAt " + k, x.cellAt(k), Check.NONE);
    int[] bad = {-2, -3, -256, Integer.MIN_VALUE, Integer.MIN_VALUE + 1};
    for (int k : bad) Check.due("cellAt " + k, x.cellAt(k), Check.BAD);
    Check.due("how many", x.cellAt(-1), 129);
  }

  /** "(Of an EMPTY TYPE: all.)", and by an EMPTY TYPE; 0: {0}; 1: none; 2: any function; 3: 0 to none; 4: 2 or 0; 5: 3 less 2; 6: pairs. */
  private static void answersOfEmptyOnes() {
    TypeSets x = Check.told("s1;c0,0;p1,1;f1,0;f0,1;u2,0;l3,2;p0,0;");
    int all = 127;
    for (int a = 0; a < 7; a++) {
      Check.due("of an empty type", x.answers(1, a), all);
      Check.due("of an empty type that is less", x.answers(5, a), all);
      Check.due("of a constant", x.answers(0, a), 0);
      Check.due("of a pair", x.answers(6, a), 0);
      Check.due("of a function or a constant", x.answers(4, a), 0);
      Check.due("of any function", x.answers(2, a), a == 1 || a == 5 ? all : 0);
      Check.due("none from 0", x.answers(3, a), a <= 1 || a == 5 ? all : 0);
    }
    Check.due("askable: all", x.askable(1), all);
    Check.due("askable: all", x.askable(5), all);
    Check.due("askable: none", x.askable(0), 0);
    Check.due("askable: none", x.askable(4), 0);
    Check.due("askable: none", x.askable(6), 0);
    Check.due("askable: only of what has no value", x.askable(2), 2 | 32);
    Check.due("askable: and of 0", x.askable(3), 1 | 2 | 32);
  }

  /** 0: {0}; 1: pairs; 2: none; 3: pairs with none; 4: pairs or 0; 5: functions or pairs. */
  private static void endsOfEmptyOnes() {
    TypeSets x = Check.told("s1;c0,0;p0,0;l0,0;p0,2;u1,0;f0,0;u5,1;");
    for (int side = 0; side < 2; side++) {
      Check.due("pairs", x.ends(1, side), 1 | 16);
      Check.due("of an empty type: all", x.ends(2, side), 127);
      Check.due("pairs of none: all", x.ends(3, side), 127);
      Check.due("a constant among them", x.ends(4, side), 0);
      Check.due("functions", x.ends(5, side), 0);
      Check.due("functions among them", x.ends(6, side), 0);
    }
    Check.due("side -1", x.ends(1, -1), Check.BAD);
    Check.due("side 2", x.ends(1, 2), Check.BAD);
  }

  /** "how many of HEIGHT h (1 to 4) or less": of all plain values, of constants alone, of none. */
  private static void plainHeights() {
    for (int constants = 1; constants <= 4; constants++) {
      TypeSets x = Check.told("s" + constants + ";c0,3;p2,2;u0,1;f0,0;u2,3;p3,2;");
      int all = 0;
      for (int h = 1; h <= 4; h++) {
        all = constants + all * all;
        Check.due("all of " + constants + " to " + h, x.plain(2, h), all);
        Check.due("with functions besides", x.plain(4, h), all);
        Check.due("constants", x.plain(0, h), constants);
        Check.due("pairs", x.plain(1, h), all - constants);
        Check.due("functions are not plain", x.plain(3, h), 0);
        Check.due("pairs with functions", x.plain(5, h), 0);
      }
      Check.due("h 0", x.plain(2, 0), Check.BAD);
      Check.due("h 5", x.plain(2, 5), Check.BAD);
    }
    Check.due("the most of all", Check.told("s4;c0,3;p2,2;u0,1;").plain(2, 4), 163220);
  }

  /** "told as two numbers in lowest terms (0 is 0 by 1)"; what is certain is 1 by 1. */
  private static void fractions() {
    for (int constants = 1; constants <= 4; constants++) {
      TypeSets x = Check.told("s" + constants + ";c0,3;p2,2;u0,1;f0,0;c0,0;p0,0;p4,2;p2,5;");
      for (int h = 1; h <= 4; h++) {
        int all = x.plain(2, h);
        for (int t = 0; t < 8; t++) {
          int n = x.plain(t, h), by = BigInteger.valueOf(n).gcd(BigInteger.valueOf(all)).intValue();
          Check.due("above", x.pick(t, h, 0), n / by);
          Check.due("below", x.pick(t, h, 1), all / by);
        }
        Check.due("1 by", x.pick(2, h, 0), 1);
        Check.due("1", x.pick(2, h, 1), 1);
        Check.due("0 by", x.pick(3, h, 0), 0);
        Check.due("1", x.pick(3, h, 1), 1);
      }
    }
  }

  /** Type 0 has no value, so it lies in all: of n = 1 each SORT, A, B that may stand there fits, if the item is not 0. */
  private static void everySortFits() {
    TypeSets x = Check.told("s1;c3,3;c0,0;c0,0;c0,0;c0,0;c0,0;c0,0;c1,2;");
    x.row(0, 0, 40);
    x.set(0, 39, -1);
    Check.due("all six", x.who(7, 0, 0, 39, 1), 63);
    Check.due("none", x.who(7, 0, 0, 38, 1), 0);
    Check.due("a span to 2 begins with 0 to 2", x.who(7, 1, 0, 39, 1), 7);
    Check.due("a span from 1 ends with 1 to 3", x.who(7, 2, 0, 39, 1), 14);
    for (int sort = 1; sort <= 5; sort++) {
      x.anew(7, sort, 1, 2);
      int want = sort <= 2 ? 255 : 127;
      Check.due("A of SORT " + sort, x.who(7, 1, 0, 39, 1), want);
      Check.due("B of SORT " + sort, x.who(7, 2, 0, 39, 1), want);
      Check.due("no A", x.who(7, 1, 0, 0, 1), 0);
    }
    Check.due("of type 0 no joint may stand", x.who(0, 0, 0, 39, 1) & 56, 0);
    x.anew(7, 1, 7, 7);
    Check.due("7 and 7 is neither a span nor a joint of 7", x.who(7, 0, 0, 39, 1), 6);
    TypeSets y = Check.told("s1;c3,3;p0,0;");
    y.row(0, 0, 1);
    y.set(0, 0, 1);
    Check.due("A of two types", y.who(1, 1, 0, 0, 1), 3);
    Check.due("B of two types", y.who(1, 2, 0, 0, 1), 3);
  }

  /** "(not 0: it does)", of any lane; "n ITEMS (1 to 8, no more than TYPES)"; at the row's very end. */
  private static void rowsThatTell() {
    String text = "s2;c0,0;c0,1;c1,1;u0,2;b0,1;l1,0;p0,1;f0,1;";
    Model m = model(text);
    for (int lane = 0; lane <= 2; lane++) {
      TypeSets x = Check.told(text);
      int[] not0 = lane == 0 ? new int[] {-128, 127, 1, -1} : lane == 1 ? new int[] {-32768, 32767, 256, -1}
        : new int[] {Integer.MIN_VALUE, Integer.MAX_VALUE, 65536, -1};
      for (int n = 1; n <= 8; n++) {
        x.row(1, lane, n);
        int[] wanted = new int[n];
        for (int o = 0; o < n; o++) wanted[o] = m.lies(o, 3) ? not0[(o + n) % 4] : 0;
        for (int o = 0; o < n; o++) x.set(1, o, wanted[o]);
        for (int which = 0; which <= 2; which++) Check.due("who of " + n, x.who(3, which, 1, 0, n), m.who(3, which, wanted));
        Check.due("one place on", x.who(3, 0, 1, 1, n), Check.PLACE);
        Check.due("one item more", x.who(3, 0, 1, 0, n + 1), n < 8 ? Check.PLACE : Check.BAD);
        Check.due("none", x.who(3, 0, 1, 0, 0), Check.BAD);
        Check.due("none of a missing row", x.who(3, 0, 2, 0, 0), Check.BAD);
      }
    }
    TypeSets two = Check.told("s1;c0,0;c0,0;");
    two.row(0, 0, 8);
    Check.due("no more than TYPES", two.who(0, 0, 0, 0, 3), Check.BAD);
    Check.due("as many as TYPES", two.who(0, 0, 0, 0, 2) >= 0 ? 1 : 0, 1);
    Check.due("BAD is ahead of PLACE", two.who(0, 0, 0, 9, 3), Check.BAD);
    Check.due("BAD is ahead of NULL", two.who(0, 3, 7, 0, 1), Check.BAD);
    Check.due("NULL is ahead of PLACE", two.who(0, 0, 7, -1, 1), Check.NULL);
  }

  /** "DRAWN n times (0 to 20) by a SEED (1 to 999999)": none, few, most; the least and the greatest seeds, of 1 to 8 types. */
  private static void draws() {
    int[] seeds = {1, 2, 127774, 999998, 999999};
    int[] times = {0, 1, 2, 3, 7, 19, 20};
    String[] more = {"c0,0;", "p0,0;", "f1,0;", "u0,1;", "b2,1;", "l3,0;", "p6,1;", "f7,2;"};
    StringBuilder text = new StringBuilder("s2;");
    for (int types = 1; types <= 8; types++) {
      String equation = more[types - 1];
      text.append(equation);
      Model m = model(text.toString());
      for (int seed : seeds) {
        TypeSets x = Check.told(text.toString());
        for (int n : times) {
          for (int what = 0; what < 2; what++) {
            Check.due(text + " drawn " + n + " " + seed + " " + what, x.drawn(n, seed, what), m.drawn(n, seed, what));
          }
        }
        Check.due("0 draws", x.drawn(0, seed, 0), types - x.count(3));
        Check.due("0 draws", x.drawn(0, seed, 1), x.cellAt(-1));
      }
    }
  }
}
