import java.io.IOException;
import java.lang.reflect.InvocationTargetException;
import java.lang.reflect.Method;
import java.nio.file.Files;
import java.nio.file.Path;
import java.util.Set;
import java.util.TreeSet;
import java.util.regex.Matcher;
import java.util.regex.Pattern;

/** The run of calls in README.md: each answer told there is the one that is given; each test told there is one. */
final class ReadmeTest {
  private static final Pattern BLOCK = Pattern.compile("(?s)```java\n(.*?)```");
  private static final Pattern MADE = Pattern.compile("TypeSets x = new TypeSets\\(\\);");
  private static final Pattern FED = Pattern.compile("for \\(char c : \"([^\"]*)\"\\.toCharArray\\(\\)\\) x\\.feed\\(c\\);.*");
  private static final Pattern CALL = Pattern.compile("x\\.(\\w+)\\(([-0-9, ]*)\\);\\s*// (-?\\d+)(:.*)?");

  public static void main(String[] args) throws IOException, ReflectiveOperationException {
    String text = Files.readString(Path.of("README.md"));
    Matcher block = BLOCK.matcher(text);
    int blocks = 0;
    for (; block.find(); blocks++) run(block.group(1).split("\n"));
    Check.due("README.md has runs of calls", blocks > 0 ? 1 : 0, 1);
    testsAreTold(text);
    Check.finish();
  }

  private static void run(String[] lines) throws ReflectiveOperationException {
    TypeSets x = null;
    for (String line : lines) {
      Matcher fed = FED.matcher(line), call = CALL.matcher(line);
      if (MADE.matcher(line).matches()) x = new TypeSets();
      else if (x != null && fed.matches()) for (char c : fed.group(1).toCharArray()) x.feed(c);
      else if (x != null && call.matches()) Check.due(line, answer(x, call.group(1), call.group(2)), Integer.parseInt(call.group(3)));
      else Check.due("this line can be run: " + line, 0, 1);
    }
  }

  private static int answer(TypeSets x, String name, String told) throws IllegalAccessException, InvocationTargetException {
    String[] words = told.isEmpty() ? new String[0] : told.split(", ");
    Object[] numbers = new Object[words.length];
    for (int i = 0; i < words.length; i++) numbers[i] = Integer.valueOf(words[i]);
    for (Method m : TypeSets.class.getMethods()) {
      if (m.getDeclaringClass() == TypeSets.class && m.getName().equals(name)) return (int) m.invoke(x, numbers);
    }
    return Integer.MIN_VALUE;
  }

  private static void testsAreTold(String text) throws IOException {
    Set<String> told = new TreeSet<>(), there = new TreeSet<>();
    Matcher row = Pattern.compile("(?m)^\\| (\\w+Test) \\|").matcher(text);
    while (row.find()) told.add(row.group(1));
    try (var files = Files.list(Path.of("src/test/java"))) {
      files.map(f -> f.getFileName().toString()).filter(n -> n.endsWith("Test.java")).forEach(n -> there.add(n.replace(".java", "")));
    }
    Check.due("tests told " + told + " and there " + there, told.equals(there) ? 1 : 0, 1);
  }
}
