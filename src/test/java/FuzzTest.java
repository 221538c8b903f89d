import java.util.ArrayList;
import java.util.List;
import java.util.Random;

/** Calls by chance, with numbers by chance: nothing throws, what is refused changes nothing, acts go back as told. */
final class FuzzTest {
  private static final int[] EDGES = {Integer.MIN_VALUE, Integer.MAX_VALUE, -1000001, -2, -1, 41, 81, 255, 256, 999999, 1000000};

  public static void main(String[] args) {
    for (int run = 0; run < 400; run++) calls(new Random(run));
    for (int run = 0; run < 200; run++) acts(new Random(run));
    for (int run = 0; run < 200; run++) sameAgain(run);
    Check.finish();
  }

  private static int number(Random r) {
    return r.nextInt(6) == 0 ? EDGES[r.nextInt(EDGES.length)] : r.nextInt(10) == 0 ? r.nextInt() : r.nextInt(9);
  }

  private static int call(TypeSets x, int which, Random r) {
    int a = number(r), b = number(r), c = number(r), d = number(r), e = number(r);
    switch (which) {
      case 0: return x.row(a, b, c);
      case 1: return x.set(a, b, c);
      case 2: return x.copy(a, b, c, d, e);
      case 3: return x.drop(a);
      case 4: return x.feed(r.nextBoolean() ? "s1;c0,p".charAt(r.nextInt(7)) : a);
      case 5: return r.nextBoolean() ? x.house() : Check.tell(x, Model.random(r, 1 + r.nextInt(8)).text());
      case 6: return x.fault();
      case 7: return x.undo();
      case 8: return x.anew(a, b, c, d);
      case 9: return x.type(a, b);
      case 10: return x.lowest(a, b);
      case 11: return x.lies(a, b);
      case 12: return x.others(a, b);
      case 13: return x.empties();
      case 14: return x.cellAt(a);
      case 15: return x.answers(a, b);
      case 16: return x.askable(a);
      case 17: return x.ends(a, b);
      case 18: return x.plain(a, b);
      case 19: return x.pick(a, b, c);
      case 20: return x.who(a, b, c, d, e);
      case 21: return x.drawn(a, b, c);
      case 22: return x.image(a);
      case 23: return x.restore(a);
      case 24: return x.kind(a);
      case 25: return x.as(a, b);
      case 26: return x.ask(a, b);
      case 27: return x.trace(a);
      case 28: return x.count(a);
      default: return x.status();
    }
  }

  private static boolean isRefusal(int which, int answer) {
    boolean anyInt = which == 1 || which == 5 || which == 6 || which == 29;
    return !anyInt && (answer <= TypeSets.BAD && answer >= Check.STORE);
  }

  /** The tape is emptied by house() even on a fault, so that call is left out of what changes nothing. */
  private static void calls(Random r) {
    TypeSets x = new TypeSets();
    for (int k = 0; k < 512; k++) {
      int which = r.nextInt(30);
      int status = x.status();
      String ahead = Check.state(x);
      int answer = call(x, which, r);
      boolean foretold = which >= 9 && which <= 21 || which == 24 || which == 25 || which >= 27;
      if (foretold || isRefusal(which, answer)) Check.unchanged("call " + which + " answering " + answer, ahead, x);
      boolean withFinding = which <= 3 || which == 20 || which == 25;
      boolean refused = answer == TypeSets.BAD || answer == TypeSets.STATE || answer == TypeSets.FULL;
      if (!withFinding || refused && which != 1) Check.due("status behind call " + which, x.status(), status);
      if (withFinding && which != 1 && !refused) {
        int finding = answer <= Check.NULL && answer >= Check.STORE ? -1000010 - answer : 0;
        Check.due("status behind call " + which + " answering " + answer, x.status(), finding);
      }
    }
  }

  /** A house, its acts and its images, kept a second time as texts. */
  private static void acts(Random r) {
    TypeSets x = new TypeSets();
    Model now = Model.random(r, 1 + r.nextInt(8));
    Check.tell(x, now.text());
    List<Model> before = new ArrayList<>();
    Model[] images = new Model[2];
    for (int k = 0; k < 200; k++) {
      int t = r.nextInt(8), sort = r.nextInt(6), a = r.nextInt(8), b = r.nextInt(8), i = r.nextInt(2);
      switch (r.nextInt(30)) {
        case 0:
          x.image(i);
          images[i] = now;
          break;
        case 1:
          Check.due("restore", x.restore(i), images[i] == null ? Check.STATE : 1);
          if (images[i] != null) {
            now = images[i];
            before.clear();
          }
          break;
        case 2:
          now = Model.random(r, 1 + r.nextInt(8));
          Check.due("house", Check.tell(x, now.text()), now.types);
          before.clear();
          break;
        case 3: case 4: case 5: case 6: case 7: case 8:
          Check.due("undo", x.undo(), before.isEmpty() ? Check.STATE : before.size() - 1);
          if (!before.isEmpty()) now = before.remove(before.size() - 1);
          break;
        default:
          boolean fits = t < now.types && now.mayStand(t, sort, a, b);
          Check.due("anew", x.anew(t, sort, a, b), fits ? now.sort[t] : Check.BAD);
          if (fits) {
            before.add(now);
            now = now.with(t, sort, a, b);
            if (before.size() > 24) before.remove(0);
          }
      }
      Check.due("acts", x.count(4), before.size());
      Check.due("constants", x.count(2), now.constants);
      Check.due("the house is " + now.text(), textOf(x).equals(now.text()) ? 1 : 0, 1);
    }
    Check.due("cells of " + now.text(), x.cellAt(-1), now.cells().size());
  }

  private static String textOf(TypeSets x) {
    StringBuilder s = new StringBuilder("s" + x.count(2) + ";");
    for (int t = 0; t < x.count(1); t++) {
      s.append("cpfubl".charAt(x.type(t, 0))).append(x.type(t, 1)).append(',').append(x.type(t, 2)).append(';');
    }
    return s.toString();
  }

  /** An object that has answered much answers as a new one that is told the same house. */
  private static void sameAgain(int run) {
    Random r = new Random(run);
    TypeSets x = new TypeSets();
    for (int k = 0; k < 40; k++) {
      Model m = Model.random(r, 1 + r.nextInt(8));
      Check.tell(x, m.text());
      TypeSets y = Check.told(m.text());
      x.drawn(r.nextInt(21), 1 + r.nextInt(999), 0);
      for (int t = 0; t < m.types; t++) {
        int a = r.nextInt(m.types), h = 1 + r.nextInt(4);
        Check.due("answers", x.answers(t, a), y.answers(t, a));
        Check.due("ends", x.ends(t, h % 2), y.ends(t, h % 2));
        Check.due("plain", x.plain(t, h), y.plain(t, h));
        Check.due("askable", x.askable(t), y.askable(t));
      }
      Check.due("cells", x.cellAt(-1), y.cellAt(-1));
    }
  }
}
