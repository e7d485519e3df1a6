import java.io.IOException;
import java.lang.reflect.Constructor;
import java.lang.reflect.Field;
import java.lang.reflect.Method;
import java.lang.reflect.Modifier;
import java.nio.charset.StandardCharsets;
import java.nio.file.Files;
import java.nio.file.Path;
import java.util.ArrayList;
import java.util.HashSet;
import java.util.List;
import java.util.Set;
import java.util.TreeSet;
import java.util.regex.Matcher;
import java.util.regex.Pattern;

/** The face of the class, and those rules of the language that can be looked up in its text. */
public final class LanguageTest {
  private static final Path DOCUMENT = Path.of("../shared/DOC.md");
  private static final Path PROGRAM = Path.of("src/main/java/GlintNets.java");
  private static final int LONGEST_METHOD = 60;

  private static int wrong = 0;

  private static void must(boolean so, String rule) {
    if (!so) {
      wrong++;
      System.out.println("not so: " + rule);
    }
  }

  public static void main(String[] args) throws IOException {
    face();
    members(GlintNets.class);
    for (Class<?> inner : GlintNets.class.getDeclaredClasses()) {
      must(Modifier.isStatic(inner.getModifiers()), inner.getName() + " is static");
      must(!Modifier.isPublic(inner.getModifiers()), inner.getName() + " is not public");
      members(inner);
    }
    text(Files.readString(PROGRAM, StandardCharsets.ISO_8859_1));
    System.out.println(wrong == 0 ? "the language is kept to" : wrong + " rules are not kept");
    if (wrong != 0) {
      System.exit(1);
    }
  }

  /** The public members are just those that the document lists. */
  private static void face() throws IOException {
    String document = Files.readString(DOCUMENT, StandardCharsets.UTF_8);
    Set<String> want = new TreeSet<>();
    Matcher line = Pattern.compile("(?m)^    public (int|long) (\\w+)\\(([^)]*)\\);$").matcher(document);
    while (line.find()) {
      want.add(line.group(1) + " " + line.group(2) + "(" + line.group(3).replaceAll(" \\w+(?=,|$)", "") + ")");
    }
    must(want.size() == 39 - 1, "the document lists 38 methods, found " + want.size());
    Set<String> have = new TreeSet<>();
    Set<String> publicNames = new HashSet<>();
    for (Method method : GlintNets.class.getDeclaredMethods()) {
      if (Modifier.isPrivate(method.getModifiers())) {
        continue;
      }
      List<String> types = new ArrayList<>();
      for (Class<?> type : method.getParameterTypes()) {
        types.add(type.getSimpleName());
      }
      have.add(method.getReturnType() + " " + method.getName() + "(" + String.join(", ", types) + ")");
      publicNames.add(method.getName());
      must(Modifier.isPublic(method.getModifiers()), method + " is public or private");
      must(!Modifier.isStatic(method.getModifiers()), method + " is not static");
    }
    must(have.equals(want), "the face is " + want + ", found " + have);
    for (Method method : GlintNets.class.getDeclaredMethods()) {
      boolean hidden = Modifier.isPrivate(method.getModifiers());
      must(!hidden || !publicNames.contains(method.getName()), method + " has a name of its own");
    }
    must(Modifier.isFinal(GlintNets.class.getModifiers()), "the class is final");
    must(Modifier.isPublic(GlintNets.class.getModifiers()), "the class is public");
    Constructor<?>[] constructors = GlintNets.class.getDeclaredConstructors();
    must(constructors.length == 1 && constructors[0].getParameterCount() == 0, "one constructor");
    must(Modifier.isPublic(constructors[0].getModifiers()), "the constructor is public");
    for (Field field : GlintNets.class.getDeclaredFields()) {
      must(Modifier.isPrivate(field.getModifiers()), field + " is private");
    }
  }

  private static void members(Class<?> type) {
    int fields = 0;
    for (Field field : type.getDeclaredFields()) {
      boolean fixed = Modifier.isStatic(field.getModifiers());
      must(!fixed || Modifier.isFinal(field.getModifiers()), field + " is final");
      fields += fixed ? 0 : 1;
    }
    must(fields <= 20, type + " has twenty fields at most");
    for (Method method : type.getDeclaredMethods()) {
      must(method.getParameterCount() <= 7, method + " has seven parameters at most");
      must(!method.isSynthetic(), method + " is written out");
    }
  }

  private static void text(String program) {
    String code = program.replaceAll("(?s)/\\*.*?\\*/", "").replaceAll("//[^\\n]*", "");
    String[] banned = {
      "throw", "throws", "try", "catch", "synchronized", "assert", "import", "package", "Random", "Thread",
      "System\\.(?!arraycopy)\\w+", "\\w+Exact", "hashCode", "toString", "equals", "finally", "volatile",
      "transient", "native", "protected", "var", "List", "ArrayList", "Object", "double", "float"
    };
    for (String word : banned) {
      Matcher found = Pattern.compile("\\b" + word + "\\b").matcher(code);
      must(!found.find(), "no " + word);
    }
    must(!code.contains("->"), "no lambda and no switch by arrows");
    must(!code.contains("::"), "no method reference");
    must(!code.contains("String["), "no arrays of texts");
    must(code.chars().allMatch(c -> c == '\n' || c >= 32 && c < 127), "plain signs alone");
    methodsAreShort(code);
  }

  /** A method begins with a brace at the end of its head and ends with one as far to the right. */
  private static void methodsAreShort(String code) {
    String[] lines = code.split("\n", -1);
    Pattern head = Pattern.compile("^( +)(?:\\w[\\w\\[\\] ]*) (\\w+)\\([^;]*\\) \\{$|^( +)(\\w+)\\([^;]*\\) \\{$");
    for (int i = 0; i < lines.length; i++) {
      Matcher m = head.matcher(lines[i]);
      if (!m.matches() || lines[i].matches(" +(if|for|while|switch|else|\\}).*")) {
        continue;
      }
      String indent = m.group(1) == null ? m.group(3) : m.group(1);
      int end = i;
      while (end < lines.length && !lines[end].equals(indent + "}")) {
        end++;
      }
      must(end - i < LONGEST_METHOD, lines[i].trim() + " is short");
    }
  }
}
