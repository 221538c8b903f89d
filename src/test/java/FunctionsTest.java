/** Promises 17 (answers), 18 (askable), 19 (ends). */
final class FunctionsTest {
  public static void main(String[] args) {
    plainArrows();
    joinedArrows();
    lessAnywhere();
    emptyOnes();
    pairs();
    refusals();
    Check.finish();
  }

  private static void answers(TypeSets x, int f, int... want) {
    for (int a = 0; a < want.length; a++) Check.due("answers " + f + " " + a, x.answers(f, a), want[a]);
  }

  /** 0: {0}; 1: {0, 1}; 2: functions 0 to 1; 3: functions 1 to 0; 4: pairs; 5: 2 or 4. */
  private static void plainArrows() {
    TypeSets x = Check.told("s3;c0,0;c0,1;f0,1;f1,0;p0,0;u2,4;");
    answers(x, 2, 2, 0, 0, 0, 0, 0);
    answers(x, 3, 3, 3, 0, 0, 0, 0);
    answers(x, 0, 0, 0, 0, 0, 0, 0);
    answers(x, 5, 0, 0, 0, 0, 0, 0);
    Check.due("askable", x.askable(2), 1);
    Check.due("askable", x.askable(3), 3);
    Check.due("a constant cannot be asked", x.askable(0), 0);
    Check.due("nor can what may be a pair", x.askable(5), 0);
  }

  /** 0: {0, 1}; 1: {1, 2}; 2: {1}; 3: 0 to 1; 4: 1 to 0; 5: both 3 and 4; 6: 3 or 4; 7: 3 less 4. */
  private static void joinedArrows() {
    TypeSets x = Check.told("s3;c0,1;c1,2;b0,1;f0,1;f1,0;b3,4;u3,4;l3,4;");
    answers(x, 5, 2, 1, 7, 0, 0, 0, 0, 0);
    answers(x, 6, 0, 0, 0, 0, 0, 0, 0, 0);
    answers(x, 3, 2, 0, 2, 0, 0, 0, 0, 0);
    answers(x, 7, 2, 0, 2, 0, 0, 0, 0, 0);
    Check.due("askable", x.askable(5), 7);
    Check.due("by either", x.askable(6), 4);
    Check.due("askable", x.askable(7), 5);
  }

  /** 0 to 0, and 1 to 1 less that, wherever the two stand: such a function can have cases that take nothing. */
  private static void lessAnywhere() {
    String[] told = {"c2,2;", "c2,2;", "c2,2;", "c2,2;", "c2,2;", "c0,0;", "c1,1;"};
    for (int one = 0; one < 5; one++) {
      for (int other = 0; other < 5; other++) {
        if (one == other) continue;
        StringBuilder text = new StringBuilder("s2;");
        for (int t = 0; t < 7; t++) text.append(t == one ? "f5,5;" : t == other ? "f6,6;" : told[t]);
        TypeSets x = Check.told(text.append("l" + other + "," + one + ";").toString());
        int empty = 31 & ~(1 << one | 1 << other);
        Check.due(text + " askable", x.askable(7), 64 | empty);
        Check.due(text + " from 1", x.answers(7, 6), 64);
        Check.due(text + " from 0", x.answers(7, 5), 0);
        Check.due(text + " from functions", x.answers(7, one), 0);
        Check.due(text + " from such functions", x.answers(7, 7), 0);
      }
    }
  }

  /** 0: {0}; 1: empty; 2: functions from 1; 3: functions 0 to 1; 4: functions 0 to 0. */
  private static void emptyOnes() {
    TypeSets x = Check.told("s2;c0,0;p1,1;f1,1;f0,1;f0,0;");
    answers(x, 1, 31, 31, 31, 31, 31);
    Check.due("of an empty type all", x.askable(1), 31);
    Check.due("of an empty type all", x.ends(1, 0), 31);
    Check.due("of an empty type all", x.ends(1, 1), 31);
    answers(x, 2, 0, 31, 0, 0, 0);
    Check.due("any function", x.askable(2), 2);
    answers(x, 3, 31, 31, 0, 0, 0);
    Check.due("no case from 0", x.askable(3), 3);
    answers(x, 0, 0, 0, 0, 0, 0);
  }

  /** 0: {0}; 1: {0, 1}; 2: pairs 0, 1; 3: pairs 1, 0; 4: 2 or 3; 5: both; 6: 2 less 3; 7: 4 or 0. */
  private static void pairs() {
    TypeSets x = Check.told("s2;c0,0;c0,1;p0,1;p1,0;u2,3;b2,3;l2,3;u4,0;");
    int zero = 1 | 2 | 128;
    Check.due("begins with 0", x.ends(2, 0), zero);
    Check.due("ends with 0 or 1", x.ends(2, 1), 2);
    Check.due("begins", x.ends(3, 0), 2);
    Check.due("ends", x.ends(3, 1), zero);
    Check.due("either", x.ends(4, 0), 2);
    Check.due("either", x.ends(4, 1), 2);
    Check.due("both", x.ends(5, 0), zero);
    Check.due("both", x.ends(5, 1), zero);
    Check.due("less", x.ends(6, 0), zero);
    Check.due("less: 1", x.ends(6, 1), 2);
    Check.due("or no pair", x.ends(7, 0), 0);
    Check.due("a constant", x.ends(0, 1), 0);
    TypeSets y = Check.told("s2;f0,0;p0,1;");
    Check.due("functions are no pairs", y.ends(0, 0), 0);
    Check.due("a pair of a function and itself", y.ends(1, 0), 3);
  }

  private static void refusals() {
    TypeSets x = Check.told("s1;c0,0;f0,1;");
    String ahead = Check.state(x);
    Check.due("answers", x.answers(-1, 0), Check.BAD);
    Check.due("answers", x.answers(2, 0), Check.BAD);
    Check.due("answers", x.answers(0, -1), Check.BAD);
    Check.due("answers", x.answers(0, 2), Check.BAD);
    Check.due("askable", x.askable(-1), Check.BAD);
    Check.due("askable", x.askable(2), Check.BAD);
    Check.due("ends", x.ends(-1, 0), Check.BAD);
    Check.due("ends", x.ends(2, 0), Check.BAD);
    Check.due("ends", x.ends(0, -1), Check.BAD);
    Check.due("ends", x.ends(0, 2), Check.BAD);
    Check.unchanged("refusals", ahead, x);
    TypeSets none = new TypeSets();
    Check.due("no house", none.answers(0, 0), Check.BAD);
    Check.due("no house", none.askable(0), Check.BAD);
    Check.due("no house", none.ends(0, 0), Check.BAD);
  }
}
