import java.io.IOException;
import java.lang.reflect.Field;
import java.lang.reflect.Method;
import java.lang.reflect.Modifier;
import java.nio.file.Files;
import java.nio.file.Path;
import java.util.Set;
import java.util.TreeSet;
import java.util.regex.Matcher;
import java.util.regex.Pattern;

/** The document's face, the rules of LANGUAGE.md that a text search can see, and the room that calls take. */
final class FaceTest {
  private static final String[] FACE = {"row 3", "set 3", "copy 5", "drop 1", "feed 1", "house 0", "fault 0", "undo 0",
    "anew 4", "type 2", "lowest 2", "lies 2", "others 2", "empties 0", "cellAt 1", "answers 2", "askable 1", "ends 2",
    "plain 2", "pick 3", "who 5", "drawn 3", "image 1", "restore 1", "kind 1", "as 2", "ask 2", "trace 1", "count 1",
    "status 0"};

  public static void main(String[] args) throws IOException {
    members();
    nestedClasses();
    source(Files.readString(Path.of("src/main/java/TypeSets.java")));
    room();
    Check.finish();
  }

  private static void members() {
    Set<String> want = new TreeSet<>(Set.of(FACE)), got = new TreeSet<>(), names = new TreeSet<>();
    for (Method m : TypeSets.class.getDeclaredMethods()) {
      if (Modifier.isPrivate(m.getModifiers())) continue;
      got.add(m.getName() + " " + m.getParameterCount());
      names.add(m.getName());
      Check.due(m.getName() + " is public", Modifier.isPublic(m.getModifiers()) ? 1 : 0, 1);
      Check.due(m.getName() + " answers an int", m.getReturnType() == int.class ? 1 : 0, 1);
    }
    Check.due("the face " + got, got.equals(want) ? 1 : 0, 1);
    for (Method m : TypeSets.class.getDeclaredMethods()) {
      if (Modifier.isPrivate(m.getModifiers())) Check.due("private " + m.getName(), names.contains(m.getName()) ? 1 : 0, 0);
    }
    Set<String> open = new TreeSet<>();
    for (Field f : TypeSets.class.getDeclaredFields()) if (!Modifier.isPrivate(f.getModifiers())) open.add(f.getName());
    Check.due("the constants " + open, open.equals(Set.of("NONE", "BAD", "STATE", "FULL")) ? 1 : 0, 1);
    Check.due("final", Modifier.isFinal(TypeSets.class.getModifiers()) ? 1 : 0, 1);
    Check.due("constructors", TypeSets.class.getDeclaredConstructors().length, 1);
  }

  private static void nestedClasses() {
    Class<?>[] nested = TypeSets.class.getDeclaredClasses();
    Check.due("at most twelve classes", nested.length <= 11 ? 1 : 0, 1);
    for (Class<?> c : nested) {
      Check.due(c + " is static", Modifier.isStatic(c.getModifiers()) ? 1 : 0, 1);
      int fields = 0;
      for (Field f : c.getDeclaredFields()) fields += Modifier.isStatic(f.getModifiers()) ? 0 : 1;
      Check.due(c + " has at most twenty fields", fields <= 20 ? 1 : 0, 1);
      for (Method m : c.getDeclaredMethods()) {
        Check.due(c + " " + m.getName() + " has at most seven parameters", m.getParameterCount() <= 7 ? 1 : 0, 1);
        for (String open : FACE) Check.due(c + " " + m.getName(), open.startsWith(m.getName() + " ") ? 1 : 0, 0);
      }
    }
  }

  private static void source(String text) {
    String code = text.replaceAll("(?s)/\\*.*?\\*/", "").replaceAll("//[^\n]*", "");
    String[] ruledOut = {"\\bthrows?\\b", "\\btry\\b", "\\bcatch\\b", "\\bsynchronized\\b", "\\bassert\\b", "->", "::",
      "\\bstatic\\s*\\{", "\\bequals\\b", "\\bhashCode\\b", "\\btoString\\b", "Exact\\b", "\\bpackage\\b", "\\bwhile\\b",
      "\\bObject\\b", "\\bNaN\\b", "\\bSystem\\.(?!arraycopy)", "\\bprotected\\b", "Arrays\\.(?!fill)"};
    for (String rule : ruledOut) {
      Matcher m = Pattern.compile(rule).matcher(code);
      Check.due("the source has " + rule, m.find() ? 1 : 0, 0);
    }
    Matcher imports = Pattern.compile("import ([^;]*);").matcher(code);
    while (imports.find()) Check.due("import " + imports.group(1), imports.group(1).equals("java.util.Arrays") ? 1 : 0, 1);
    for (int i = 0; i < text.length(); i++) if (text.charAt(i) > 126) Check.due("a sign that is not plain", text.charAt(i), 126);
    methodLengths(code);
  }

  private static void methodLengths(String code) {
    String[] lines = code.split("\n");
    for (int i = 0, start = -1; i < lines.length; i++) {
      if (lines[i].matches("( {4}| {8})\\S.*\\) \\{") && !lines[i].contains(" class ")) start = i;
      if (lines[i].matches("( {4}| {8})\\}") && start >= 0) {
        Check.due("lines of" + lines[start], i - start < 60 ? 1 : 0, 1);
        start = -1;
      }
    }
  }

  /** After it is made an object makes nothing more: each call uses the rows of the constructor again. */
  private static void room() {
    com.sun.management.ThreadMXBean bean = (com.sun.management.ThreadMXBean) java.lang.management.ManagementFactory.getThreadMXBean();
    long id = Thread.currentThread().getId();
    TypeSets x = Check.told("s3;f4,3;f0,7;f7,3;f6,1;f2,5;p2,1;f3,5;f6,0;");
    long sum = everyCall(x);
    long ahead = bean.getThreadAllocatedBytes(id);
    for (int k = 0; k < 200; k++) sum += everyCall(x);
    long made = bean.getThreadAllocatedBytes(id) - ahead;
    Check.due("bytes made by 6000 calls (" + made + ", sum " + sum + ")", made < 20000 ? 1 : 0, 1);
    long before = bean.getThreadAllocatedBytes(id);
    x = new TypeSets();
    long one = bean.getThreadAllocatedBytes(id) - before;
    Check.due("bytes of one object: " + one + x.count(0), one < 100000 ? 1 : 0, 1);
  }

  private static long everyCall(TypeSets x) {
    return x.row(0, 1, 9) + x.row(1, 1, 9) + x.set(0, 1, 2) + x.copy(0, 0, 1, 0, 9) + x.drop(1) + x.feed('s') + x.house()
      + x.fault() + x.anew(0, 2, 3, 4) + x.undo() + x.type(0, 0) + x.lowest(1, 2) + x.lies(0, 1) + x.others(0, 1)
      + x.empties() + x.cellAt(5) + x.answers(0, 3) + x.askable(0) + x.ends(5, 0) + x.plain(0, 4) + x.pick(0, 4, 1)
      + x.who(0, 1, 0, 0, 8) + x.drawn(20, 7, 1) + x.image(0) + x.restore(0) + x.kind(0) + x.as(0, 1) + x.ask(0, 1)
      + x.trace(0) + x.count(3) + x.status();
  }
}
