import java.io.IOException;
import java.lang.reflect.Method;
import java.lang.reflect.Modifier;
import java.nio.charset.StandardCharsets;
import java.nio.file.Files;
import java.nio.file.Path;
import java.util.Set;
import java.util.TreeSet;
import java.util.regex.Matcher;
import java.util.regex.Pattern;

/** README.md tells the truth: its examples answer what stands behind them, and no call is left out. */
public final class ReadmeTest {
  private static final Path README = Path.of("README.md");
  private static final Pattern BLOCK = Pattern.compile("(?s)```java\n(.*?)```");
  private static final Pattern CALL = Pattern.compile("x\\.(\\w+)\\(([^)]*)\\); +// (-?\\d+): .*");
  private static final String[] FINDINGS = {"BEYOND", "FULL", "KIND", "NONE", "STATE", "MISSING", "SIZE"};
  private static final String[] KINDS = {"THING", "TOWER", "BRIDE", "MOON", "STEEPLE", "FACE"};

  private static int asked = 0;
  private static int wrong = 0;

  public static void main(String[] args) throws ReflectiveOperationException, IOException {
    String text = Files.readString(README, StandardCharsets.UTF_8);
    Matcher block = BLOCK.matcher(text);
    while (block.find()) {
      example(block.group(1));
    }
    must(asked >= 20, "there are examples, found " + asked);
    tables(text);
    System.out.println(wrong == 0 ? asked + " examples are as told" : wrong + " things are not as told");
    if (wrong != 0) {
      System.exit(1);
    }
  }

  private static void must(boolean so, String what) {
    if (!so) {
      wrong++;
      System.out.println("not so: " + what);
    }
  }

  private static void example(String code) throws ReflectiveOperationException {
    String[] lines = code.split("\n");
    must(lines[0].equals("GlintNets x = new GlintNets();"), "an example begins with a new object");
    GlintNets x = new GlintNets();
    for (int i = 1; i < lines.length; i++) {
      Matcher call = CALL.matcher(lines[i]);
      must(call.matches(), "a call with its answer: " + lines[i]);
      if (call.matches()) {
        long got = answer(x, call.group(1), call.group(2));
        must(got == Long.parseLong(call.group(3)), lines[i] + " (answered " + got + ")");
        asked++;
      }
    }
  }

  private static long answer(GlintNets x, String name, String told) throws ReflectiveOperationException {
    String[] words = told.isEmpty() ? new String[0] : told.split(", ");
    Method method = called(name);
    Object[] values = new Object[words.length];
    for (int i = 0; i < words.length; i++) {
      long value = Long.decode(words[i]);
      values[i] = method.getParameterTypes()[i] == int.class ? (Object) (int) value : (Object) value;
    }
    return ((Number) method.invoke(x, values)).longValue();
  }

  private static Method called(String name) throws NoSuchMethodException {
    for (Method method : GlintNets.class.getDeclaredMethods()) {
      if (Modifier.isPublic(method.getModifiers()) && method.getName().equals(name)) {
        return method;
      }
    }
    throw new NoSuchMethodException(name);
  }

  private static void tables(String text) {
    Set<String> named = new TreeSet<>();
    int from = text.indexOf("### All calls");
    int to = text.indexOf("### Findings");
    must(from >= 0 && to > from, "all calls are listed ahead of the findings");
    Matcher name = Pattern.compile("`(\\w+)`").matcher(from >= 0 && to > from ? text.substring(from, to) : "");
    while (name.find()) {
      named.add(name.group(1));
    }
    Set<String> face = new TreeSet<>();
    for (Method method : GlintNets.class.getDeclaredMethods()) {
      if (Modifier.isPublic(method.getModifiers())) {
        face.add(method.getName());
      }
    }
    must(named.equals(face), "the calls are " + face + ", listed are " + named);
    for (int i = 0; i < FINDINGS.length; i++) {
      String row = "| " + FINDINGS[i] + " | " + (-1000000001 - i) + " | " + i + " |";
      must(text.contains(row), "a row of the findings: " + row);
    }
    for (int i = 0; i < KINDS.length; i++) {
      must(text.contains("| " + KINDS[i] + " | " + i + " |"), "a row of the kinds: " + KINDS[i]);
    }
    for (String test : new String[] {"PromiseTest", "EdgeTest", "ModelTest", "LanguageTest", "ReadmeTest"}) {
      must(text.contains("- `" + test + "`"), "what " + test + " is");
      must(Files.exists(Path.of("src/test/java/" + test + ".java")), test + " is there");
    }
  }
}
