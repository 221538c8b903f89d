import java.util.Random;

/** THE TAPE and the texts of houses at their bounds (Terms, 1 ROWS; promises 6 to 8), against a second reading. */
final class TextEdgesTest {
  private static final String[] TEXTS = {"s1;c0,0;", "s4;c0,3;c3,3;p1,0;", "s2;p0,1;f2,0;u0,1;b2,2;l1,0;", "s02;c00,03;p1,00;",
    "s3;p7,7;f7,0;c1,2;u2,1;b3,0;l4,4;p0,0;f6,7;"};

  public static void main(String[] args) {
    longTape();
    constants();
    spans();
    joints();
    anyTypes();
    howManyTypes();
    oneByteOff();
    cutOff();
    byChance();
    faultsAmongHouses();
    bytesOfTheTape();
    Check.finish();
  }

  /** A text is read as the second reading says: how many types, or the place and the number of its first fault. */
  private static void reads(String text) {
    Reading want = new Reading(text);
    TypeSets x = new TypeSets();
    for (int i = 0; i < text.length(); i++) Check.due("feed", x.feed(text.charAt(i)), i + 1);
    String of = "'" + text + "'";
    Check.due("house of " + of, x.house(), want.fault == 0 ? want.types.size() : -1000100 - want.place);
    Check.due("fault of " + of, x.fault(), want.fault);
    Check.due("types of " + of, x.count(1), want.fault == 0 ? want.types.size() : 0);
    Check.due("constants of " + of, x.count(2), want.fault == 0 ? want.constants : 0);
    Check.due("the tape is empty behind " + of, x.count(5), 0);
    for (int t = 0; t < 8 && want.fault == 0; t++) {
      for (int what = 0; what < 3; what++) {
        Check.due(what + " of type " + t + " of " + of, x.type(t, what), t < want.types.size() ? want.types.get(t)[what] : Check.BAD);
      }
    }
  }

  private static void faults(String text, int place, int fault) {
    TypeSets x = new TypeSets();
    Check.due("house of " + text, Check.tell(x, text), -1000100 - place);
    Check.due("fault of " + text, x.fault(), fault);
    reads(text);
  }

  private static void stands(String text, int types) {
    Check.due("house of " + text, Check.tell(new TypeSets(), text), types);
    reads(text);
  }

  /** "THE TAPE has at most 80 bytes": the 80th comes, the 81st is FULL, and a tape of 80 is read to its end. */
  private static void longTape() {
    StringBuilder full = new StringBuilder("s1;");
    for (int t = 0; t < 8; t++) full.append("c00,00;");
    while (full.length() < 80) full.append('c');
    faults(full.toString(), 59, 3);
    for (int length = 0; length <= 80; length++) reads(full.substring(0, length));
    TypeSets x = new TypeSets();
    for (int k = 0; k < 79; k++) x.feed(';');
    Check.due("the 80th", x.feed('s'), 80);
    Check.due("the 81st", x.feed('s'), Check.FULL);
    Check.due("the 81st, the least byte", x.feed(0), Check.FULL);
    Check.due("the 81st, the greatest byte", x.feed(255), Check.FULL);
    Check.due("no byte at all", x.feed(256), Check.BAD);
    Check.due("no byte at all", x.feed(-1), Check.BAD);
    Check.due("80 bytes", x.count(5), 80);
    Check.due("read", x.house(), -1000100);
    for (int k = 1; k <= 80; k++) Check.due("room again", x.feed('s'), k);
    Check.due("and no more", x.feed('s'), Check.FULL);
    Check.due("the second s cannot stand there", x.house(), -1000101);
    StringBuilder last = new StringBuilder("s1;c0,0;");
    while (last.length() < 79) last.append('9');
    faults(last + ";", 8, 1);
  }

  /** "s CONSTANTS ; (1 to 4)", each by one figure or two. */
  private static void constants() {
    for (int n = 0; n <= 99; n++) {
      String two = (n < 10 ? "0" : "") + n;
      if (n >= 1 && n <= 4) stands("s" + two + ";c0,0;", 1);
      else faults("s" + two + ";c0,0;", 1, 2);
      if (n < 10) reads("s" + n + ";c0,0;");
    }
    faults("s004;c0,0;", 1, 1);
    faults("s", 1, 1);
    faults("s4", 2, 1);
  }

  /** "of a span A 0 to 3, B from A on to 3". */
  private static void spans() {
    for (int a = 0; a <= 12; a++) {
      for (int b = 0; b <= 12; b++) {
        String text = "s1;c" + a + "," + b + ";";
        if (a > 3) faults(text, 4, 2);
        else if (b < a || b > 3) faults(text, 6, 2);
        else stands(text, 1);
      }
    }
  }

  private static String spansAhead(int types) {
    StringBuilder s = new StringBuilder("s1;");
    for (int t = 0; t < types; t++) s.append("c0,0;");
    return s.toString();
  }

  /** "of a union, both, less A, B TYPES of lesser numbers than its own". */
  private static void joints() {
    for (int own = 0; own < 8; own++) {
      String ahead = spansAhead(own);
      for (char sort : "ubl".toCharArray()) {
        if (own > 0) stands(ahead + sort + (own - 1) + "," + (own - 1) + ";", own + 1);
        faults(ahead + sort + own + ",0;", ahead.length() + 1, 2);
        if (own > 0) faults(ahead + sort + "0," + own + ";", ahead.length() + 3, 2);
        for (int v = 0; v <= 10; v++) reads(ahead + sort + "0," + v + ";c0,0;");
      }
    }
  }

  /** "of pairs, functions 0 to 7: any TYPES, also those told behind: if there is none such in the end, FAULT 4". */
  private static void anyTypes() {
    for (int types = 1; types <= 8; types++) {
      for (int own = 0; own < types; own++) {
        for (char sort : "pf".toCharArray()) {
          for (int v = 0; v <= 9; v++) {
            named(types, own, sort + "" + v + ",0;", v, 1);
            named(types, own, sort + "0," + v + ";", v, 3);
          }
        }
      }
    }
    faults("s1;p7,7;x", 8, 1);
    faults("s1;p7,7", 7, 1);
    faults("s1;p7,8;", 6, 2);
    faults("s1;p1,0;c9,0;", 9, 2);
  }

  private static void named(int types, int own, String equation, int v, int at) {
    StringBuilder text = new StringBuilder("s1;");
    for (int t = 0; t < types; t++) text.append(t == own ? equation : "c0,0;");
    if (v > 7) faults(text.toString(), 3 + 5 * own + at, 2);
    else if (v >= types) faults(text.toString(), text.length(), 4);
    else stands(text.toString(), types);
  }

  /** "type { type }": one at least; "TYPES 0 .. 7, 8 at most"; "3 a type more than there is room for (its letter)". */
  private static void howManyTypes() {
    faults("s1;", 3, 1);
    for (int types = 1; types <= 8; types++) stands(spansAhead(types), types);
    for (char sort : "cpfubl".toCharArray()) {
      faults(spansAhead(8) + sort, 43, 3);
      faults(spansAhead(8) + sort + "99", 43, 3);
      faults(spansAhead(8) + sort + "0,0;", 43, 3);
    }
    for (char other : "asz,;0A \0\377".toCharArray()) faults(spansAhead(8) + other, 43, 1);
    faults("s1;p8,0;" + spansAhead(8).substring(3), 4, 2);
  }

  /** Each byte in place of, ahead of, each byte of a text, and each byte left out. */
  private static void oneByteOff() {
    for (String text : TEXTS) {
      reads(text);
      for (int i = 0; i <= text.length(); i++) {
        String ahead = text.substring(0, i), behind = text.substring(i);
        for (int letter = 0; letter < 256; letter++) {
          reads(ahead + (char) letter + behind);
          if (!behind.isEmpty()) reads(ahead + (char) letter + behind.substring(1));
        }
        if (!behind.isEmpty()) reads(ahead + behind.substring(1));
      }
    }
  }

  /** "the end: how many bytes there are", wherever it comes. */
  private static void cutOff() {
    for (String text : TEXTS) {
      for (int end = 0; end < text.length(); end++) {
        reads(text.substring(0, end));
        Reading of = new Reading(text.substring(0, end));
        if (of.fault == 1) Check.due("the place of the end of " + text.substring(0, end), of.place, end);
      }
    }
  }

  private static void byChance() {
    Random r = new Random(6);
    String signs = "s1;c0,2pfubl;,;,37";
    for (int k = 0; k < 20000; k++) {
      StringBuilder text = new StringBuilder(r.nextInt(4) == 0 ? "" : "s" + r.nextInt(6) + ";");
      for (int t = r.nextInt(10); t > 0; t--) {
        text.append("cpfubl".charAt(r.nextInt(6))).append(r.nextInt(5)).append(',').append(r.nextInt(5)).append(';');
      }
      for (int n = r.nextInt(3); n > 0 && text.length() > 0; n--) {
        text.setCharAt(r.nextInt(text.length()), signs.charAt(r.nextInt(signs.length())));
      }
      reads(text.toString());
    }
  }

  /** "0 before one"; the latest FAULT stays the latest when a house is read without one. */
  private static void faultsAmongHouses() {
    TypeSets x = new TypeSets();
    Check.due("before one", x.fault(), 0);
    Check.tell(x, "s1;c0,0;");
    Check.due("before one", x.fault(), 0);
    String[] texts = {"s1;p1,1;", "s9;", "s1;", "s1;c0,0;c0,0;c0,0;c0,0;c0,0;c0,0;c0,0;c0,0;l"};
    int[] want = {4, 2, 1, 3};
    for (int k = 0; k < texts.length; k++) {
      Check.tell(x, texts[k]);
      Check.due("latest of " + texts[k], x.fault(), want[k]);
      Check.due("one type as ahead", x.count(1), 1);
      Check.tell(x, "s2;c0,0;");
      Check.due("the house without one leaves it", x.fault(), want[k]);
    }
  }

  /** Each byte counts; none is read twice, and what house() has read does not come back. */
  private static void bytesOfTheTape() {
    TypeSets x = new TypeSets();
    for (int letter = 0; letter < 256; letter++) {
      Check.due("byte " + letter, x.feed(letter), letter % 64 + 1);
      if (letter % 64 == 63) x.house();
    }
    Check.due("none left", x.count(5), 0);
    Check.due("the empty tape", x.house(), -1000100);
    Check.due("the empty tape", x.fault(), 1);
    Check.tell(x, "s3;c0,1;");
    Check.due("the empty tape again", x.house(), -1000100);
    Check.due("the house stays", x.count(2), 3);
  }
}
