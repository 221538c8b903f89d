import java.util.ArrayList;
import java.util.List;
import java.util.regex.Matcher;
import java.util.regex.Pattern;

/** The reading of a tape once more: all TOKENS first, then one after the other against what may stand there. */
final class Reading {
  private static final Pattern TOKEN = Pattern.compile("([a-z])|([0-9]+)|([,;])|([^a-z0-9,;])", Pattern.DOTALL);

  /** The number of the FAULT and its place; 0 if there is none. */
  int fault, place;
  int constants;
  final List<int[]> types = new ArrayList<>();

  private final List<String> tokens = new ArrayList<>();
  private final List<Integer> places = new ArrayList<>();

  Reading(String text) {
    Matcher m = TOKEN.matcher(text);
    while (m.find()) {
      tokens.add(m.group());
      places.add(m.start());
    }
    tokens.add("");
    places.add(text.length());
    for (int k = 0; k < tokens.size() && fault == 0; k++) {
      place = places.get(k);
      fault = faultOf(k, tokens.get(k));
    }
  }

  /** Tokens 0 to 2 are the law, then each type has five: its letter, A, the comma, B, the end. */
  private int faultOf(int k, String token) {
    if (k == 0) return token.equals("s") ? 0 : 1;
    if (k == 1) {
      constants = number(token);
      return constants == -1 ? 1 : constants < 1 || constants > 4 ? 2 : 0;
    }
    if (k == 2) return token.equals(";") ? 0 : 1;
    int type = (k - 3) / 5;
    switch ((k - 3) % 5) {
      case 0: return faultOfLetter(type, token);
      case 1: case 3: return faultOfNumber(type, (k - 3) % 5, number(token));
      case 2: return token.equals(",") ? 0 : 1;
      default: return token.equals(";") ? 0 : 1;
    }
  }

  private int faultOfLetter(int type, String token) {
    if (token.isEmpty() && type > 0) return namesOthers() ? 4 : 0;
    int sort = token.isEmpty() ? -1 : "cpfubl".indexOf(token);
    if (sort < 0) return 1;
    if (type == 8) return 3;
    types.add(new int[] {sort, 0, 0});
    return 0;
  }

  private int faultOfNumber(int type, int at, int n) {
    int[] told = types.get(type);
    if (n == -1) return 1;
    told[at == 1 ? 1 : 2] = n;
    int least = told[0] == 0 && at == 3 ? told[1] : 0;
    int most = told[0] == 0 ? 3 : told[0] <= 2 ? 7 : type - 1;
    return n < least || n > most ? 2 : 0;
  }

  private boolean namesOthers() {
    for (int[] t : types) if (t[0] != 0 && (t[1] >= types.size() || t[2] >= types.size())) return true;
    return false;
  }

  private static int number(String token) {
    return token.matches("[0-9]{1,2}") ? Integer.parseInt(token) : -1;
  }
}
