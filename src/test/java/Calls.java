import java.util.ArrayList;
import java.util.List;

/** Every call of the face with the numbers that it takes, each with its bounds and what is due beyond them. */
final class Calls {
  static final int MIN = Integer.MIN_VALUE, MAX = Integer.MAX_VALUE;
  static final int ITEMS = 40;

  interface Made {
    int on(TypeSets x, int[] n);
  }

  /** One number that a call takes: its least, its greatest, and the answer below and above. */
  static final class Bound {
    final int place, least, most, below, above;

    Bound(int place, int least, int most, int below, int above) {
      this.place = place;
      this.least = least;
      this.most = most;
      this.below = below;
      this.above = above;
    }
  }

  static final class Call {
    final String name;
    final Made made;
    final int[] good;
    final List<Bound> bounds = new ArrayList<>();

    Call(String name, Made made, int... good) {
      this.name = name;
      this.made = made;
      this.good = good;
    }

    Call bad(int place, int least, int most) {
      return other(place, least, most, Check.BAD, Check.BAD);
    }

    Call other(int place, int least, int most, int below, int above) {
      bounds.add(new Bound(place, least, most, below, above));
      return this;
    }

    int with(TypeSets x, int place, int v) {
      int[] n = good.clone();
      n[place] = v;
      return made.on(x, n);
    }

    String told(int place, int v) {
      StringBuilder s = new StringBuilder(name);
      for (int k = 0; k < good.length; k++) s.append(' ').append(k == place ? v : good[k]);
      return s.toString();
    }
  }

  private Calls() {
  }

  /** All ROWS are there with 40 bytes each, both images are kept, and there is an ACT. */
  static TypeSets ready(int types) {
    StringBuilder text = new StringBuilder("s4;c0,3;");
    String[] more = {"p0,0;", "u0,1;", "f0,1;", "b0,2;", "l2,0;", "c1,1;", "p6,3;"};
    for (int t = 1; t < types; t++) text.append(more[t - 1]);
    TypeSets x = Check.told(text.toString());
    for (int row = 0; row < 8; row++) x.row(row, 0, ITEMS);
    x.image(0);
    x.image(1);
    x.anew(0, 0, 0, 2);
    return x;
  }

  static List<Call> all(int types) {
    List<Call> all = new ArrayList<>();
    rows(all, types);
    told(all, types);
    lying(all, types);
    asked(all, types);
    return all;
  }

  private static void rows(List<Call> all, int types) {
    int place = Check.PLACE, last = ITEMS - 1;
    all.add(new Call("row", (x, n) -> x.row(n[0], n[1], n[2]), 2, 1, 3)
      .bad(0, 0, 7).bad(1, 0, 2).other(2, 0, ITEMS, Check.SIZE, Check.BAD));
    all.add(new Call("set", (x, n) -> x.set(n[0], n[1], n[2]), 2, 1, 3).bad(0, 0, 7).other(1, 0, last, place, place));
    all.add(new Call("copy", (x, n) -> x.copy(n[0], n[1], n[2], n[3], n[4]), 2, 0, 3, 0, 1).bad(0, 0, 7).bad(2, 0, 7)
      .other(1, 0, last, place, place).other(3, 0, last, place, place).other(4, 0, ITEMS, place, place));
    all.add(new Call("copy", (x, n) -> x.copy(n[0], n[1], n[2], n[3], n[4]), 2, 0, 2, 0, 0)
      .other(1, 0, ITEMS, place, place).other(3, 0, ITEMS, place, place).other(4, 0, ITEMS, place, place));
    all.add(new Call("copy", (x, n) -> x.copy(n[0], n[1], n[2], n[3], n[4]), 2, 0, 2, 0, ITEMS)
      .other(1, 0, 0, place, place).other(3, 0, 0, place, place));
    all.add(new Call("copy", (x, n) -> x.copy(n[0], n[1], n[2], n[3], n[4]), 7, 3, 0, 30, 2)
      .other(1, 0, ITEMS - 2, place, place).other(3, 0, ITEMS - 2, place, place).other(4, 0, 10, place, place));
    all.add(new Call("drop", (x, n) -> x.drop(n[0]), 2).bad(0, 0, 7));
    all.add(new Call("who", (x, n) -> x.who(n[0], n[1], n[2], n[3], n[4]), 0, 0, 2, 0, 1).bad(0, 0, types - 1).bad(1, 0, 2)
      .bad(2, 0, 7).other(3, 0, last, place, place).bad(4, 1, types));
    all.add(new Call("who", (x, n) -> x.who(n[0], n[1], n[2], n[3], n[4]), 0, 2, 7, ITEMS - types, types)
      .bad(0, 0, types - 1).bad(1, 0, 2).bad(2, 0, 7).other(3, 0, ITEMS - types, place, place).bad(4, 1, types));
  }

  private static void told(List<Call> all, int types) {
    all.add(new Call("feed", (x, n) -> x.feed(n[0]), 'a').bad(0, 0, 255));
    Made anew = (x, n) -> x.anew(n[0], n[1], n[2], n[3]);
    int last = types - 1;
    all.add(new Call("anew", anew, 0, 0, 0, 0).bad(0, 0, last).bad(2, 0, 0).bad(3, 0, 3));
    all.add(new Call("anew", anew, last, 0, 2, 2).bad(0, 0, last).bad(2, 0, 2).bad(3, 2, 3));
    all.add(new Call("anew", anew, last, 0, 3, 3).bad(0, 0, last).bad(2, 0, 3).bad(3, 3, 3));
    all.add(new Call("anew", anew, 0, 1, 0, 0).bad(0, 0, last).bad(2, 0, last).bad(3, 0, last));
    all.add(new Call("anew", anew, last, 2, last, last).bad(0, 0, last).bad(2, 0, last).bad(3, 0, last));
    for (int sort = 3; sort <= 5 && types > 1; sort++) {
      all.add(new Call("anew", anew, last, sort, 0, 0).bad(0, 1, last).bad(1, 0, 5).bad(2, 0, last - 1).bad(3, 0, last - 1));
      all.add(new Call("anew", anew, 1, sort, 0, 0).bad(0, 1, last).bad(1, 0, 5).bad(2, 0, 0).bad(3, 0, 0));
    }
    all.add(new Call("type", (x, n) -> x.type(n[0], n[1]), 0, 0).bad(0, 0, last).bad(1, 0, 2));
    all.add(new Call("image", (x, n) -> x.image(n[0]), 0).bad(0, 0, 1));
    all.add(new Call("restore", (x, n) -> x.restore(n[0]), 0).bad(0, 0, 1));
  }

  private static void lying(List<Call> all, int types) {
    int last = types - 1, sets = (1 << types) - 1;
    all.add(new Call("lowest", (x, n) -> x.lowest(n[0], n[1]), 0, 0).bad(0, 0, sets).bad(1, 0, sets));
    all.add(new Call("lowest", (x, n) -> x.lowest(n[0], n[1]), sets, sets).bad(0, 0, sets).bad(1, 0, sets));
    all.add(new Call("lies", (x, n) -> x.lies(n[0], n[1]), 0, last).bad(0, 0, last).bad(1, 0, last));
    all.add(new Call("others", (x, n) -> x.others(n[0], n[1]), last, 2).bad(0, 0, last).bad(1, 0, 2));
    all.add(new Call("cellAt", (x, n) -> x.cellAt(n[0]), 0).bad(0, -1, MAX));
    all.add(new Call("answers", (x, n) -> x.answers(n[0], n[1]), last, 0).bad(0, 0, last).bad(1, 0, last));
    all.add(new Call("askable", (x, n) -> x.askable(n[0]), 0).bad(0, 0, last));
    all.add(new Call("ends", (x, n) -> x.ends(n[0], n[1]), last, 1).bad(0, 0, last).bad(1, 0, 1));
    all.add(new Call("plain", (x, n) -> x.plain(n[0], n[1]), last, 4).bad(0, 0, last).bad(1, 1, 4));
    all.add(new Call("pick", (x, n) -> x.pick(n[0], n[1], n[2]), last, 1, 1).bad(0, 0, last).bad(1, 1, 4).bad(2, 0, 1));
    all.add(new Call("drawn", (x, n) -> x.drawn(n[0], n[1], n[2]), 1, 1, 0).bad(0, 0, 20).bad(1, 1, 999999).bad(2, 0, 1));
    all.add(new Call("drawn", (x, n) -> x.drawn(n[0], n[1], n[2]), 20, 999999, 1).bad(0, 0, 20).bad(1, 1, 999999).bad(2, 0, 1));
  }

  private static void asked(List<Call> all, int types) {
    int last = types - 1;
    all.add(new Call("kind", (x, n) -> x.kind(n[0]), 0).bad(0, 0, last));
    all.add(new Call("as", (x, n) -> x.as(n[0], n[1]), last, 0).bad(0, 0, last));
    all.add(new Call("ask", (x, n) -> x.ask(n[0], n[1]), 0, 1).bad(0, 0, last).bad(1, 0, 1));
    all.add(new Call("count", (x, n) -> x.count(n[0]), 0).bad(0, 0, 5));
  }

  /** Numbers about a bound, about the ends of int, and such as only their lowest bits would let pass. */
  static List<Integer> about(Bound bound, int good) {
    List<Integer> all = new ArrayList<>();
    int[] near = {bound.least - 1, bound.least, bound.least + 1, bound.most - 1, bound.most, bound.most + 1, MIN, MIN + 1,
      MAX, MAX - 1, -1, -2, 0, 1, good + 256, good - 256, good + 65536, good - 65536, good ^ MIN, good | 1 << 30, ~good, -good};
    for (int v : near) all.add(v);
    for (int k = 0; k < 32; k++) {
      all.add(1 << k);
      all.add(-(1 << k));
    }
    for (int refusal = Check.STORE; refusal <= Check.NONE; refusal++) all.add(refusal);
    for (int v = 0; v <= 42; v++) all.add(v);
    return all;
  }
}
