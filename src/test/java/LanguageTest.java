import java.io.IOException;
import java.lang.reflect.Field;
import java.lang.reflect.Method;
import java.lang.reflect.Modifier;
import java.nio.file.Files;
import java.nio.file.Path;
import java.util.ArrayList;
import java.util.HashSet;
import java.util.List;
import java.util.Set;
import java.util.TreeSet;
import java.util.regex.Matcher;
import java.util.regex.Pattern;

/** The rules of ../shared/LANGUAGE.md that can be looked at without reading the program as a whole. */
public final class LanguageTest {
  private static final Path SOURCE = Path.of("src/main/java/PolarTypes.java");
  private static final String[] FACE = {"node", "field", "told", "type", "where", "steps", "sign", "variable", "bound",
      "work", "value", "worked", "stuck", "count", "digest"};
  private static final String[] CONSTANTS = {"BAD", "FULL", "STATE", "SPENT", "FAULT", "NONE"};
  private static final String[] FORBIDDEN = {"throw", "throws", "try", "catch", "finally", "synchronized", "assert",
      "volatile", "native", "equals", "hashCode", "toString", "System", "Thread", "Class", "Object", "Runtime",
      "Random", "protected", "HashMap", "Map", "Set", "Scanner", "File", "strictfp", "package"};

  private static int passed = 0;
  private static int failed = 0;

  public static void main(String[] args) throws IOException {
    String source = Files.readString(SOURCE);
    String code = withoutComments(source);
    words(code);
    imports(code);
    face();
    List<Class<?>> classes = new ArrayList<>(List.of(PolarTypes.class.getDeclaredClasses()));
    inside(classes);
    classes.add(PolarTypes.class);
    for (Class<?> one : classes) members(one);
    methods(code);
    System.out.println("LanguageTest: " + passed + " passed, " + failed + " failed");
    if (failed != 0) System.exit(1);
  }

  private static void check(boolean holds, String rule) {
    if (holds) {
      passed++;
    } else {
      failed++;
      System.out.println("rule " + rule);
    }
  }

  private static String withoutComments(String source) {
    String code = Pattern.compile("/\\*.*?\\*/", Pattern.DOTALL).matcher(source).replaceAll("");
    return code.replaceAll("//[^\n]*", "");
  }

  private static void words(String code) {
    for (String word : FORBIDDEN) {
      check(!Pattern.compile("\\b" + word + "\\b").matcher(code).find(), "4, 6, 13: the word " + word);
    }
    check(!code.contains("->") && !code.contains("::"), "2: no lambda, no method reference");
    check(!Pattern.compile("\\w+Exact\\b").matcher(code).find(), "4: Exact");
    check(!Pattern.compile("\"").matcher(code).find(), "4: texts, of which there are none here");
    check(!Pattern.compile("while \\(true\\)|for \\(;;").matcher(code).find(), "9: a loop without an end");
    check(code.chars().allMatch(c -> c < 128), "4: signs 1 to 127");
    check(!Pattern.compile("static \\{").matcher(code).find(), "5: no static initialiser block");
    // Where a division or a rest is, its divisor is a number that is told.
    Matcher division = Pattern.compile(" [/%]=? (\\S+)").matcher(code);
    while (division.find()) {
      check(division.group(1).matches("[1-9]\\d*[;)]*|power"), "7: a divisor " + division.group(1));
    }
  }

  private static void imports(String code) {
    Matcher line = Pattern.compile("(?m)^import (.*);$").matcher(code);
    while (line.find()) check(line.group(1).equals("java.util.Arrays"), "4: import " + line.group(1));
  }

  private static void face() {
    Set<String> methods = new TreeSet<>();
    for (Method method : PolarTypes.class.getDeclaredMethods()) {
      if (Modifier.isPublic(method.getModifiers())) methods.add(method.getName());
      else check(Modifier.isPrivate(method.getModifiers()), "1: " + method);
    }
    check(methods.equals(new TreeSet<>(List.of(FACE))), "1: the public methods " + methods);
    Set<String> constants = new HashSet<>();
    for (Field field : PolarTypes.class.getDeclaredFields()) {
      if (Modifier.isPublic(field.getModifiers())) constants.add(field.getName());
      else check(Modifier.isPrivate(field.getModifiers()), "1: " + field);
    }
    check(constants.equals(new HashSet<>(List.of(CONSTANTS))), "1: the public constants " + constants);
    check(PolarTypes.class.getDeclaredConstructors().length == 1, "1: one constructor");
    check(Modifier.isFinal(PolarTypes.class.getModifiers()), "1: final");
  }

  private static void inside(List<Class<?>> classes) {
    check(classes.size() <= 11, "11: some twelve classes");
    for (Class<?> one : classes) {
      check(Modifier.isStatic(one.getModifiers()), "2: static " + one);
      check(!Modifier.isPublic(one.getModifiers()) && !Modifier.isProtected(one.getModifiers()), "1: private " + one);
      check(one.getDeclaredClasses().length == 0, "2: no class within " + one);
      for (Method method : one.getDeclaredMethods()) {
        check(!List.of(FACE).contains(method.getName()), "1: the name of " + method);
      }
    }
  }

  private static void members(Class<?> one) {
    int fields = 0;
    for (Field field : one.getDeclaredFields()) {
      if (Modifier.isStatic(field.getModifiers())) {
        check(Modifier.isFinal(field.getModifiers()), "5: final " + field);
        Class<?> type = field.getType();
        check(type == int.class || type == long.class || type == int[].class, "5: the type of " + field);
      } else {
        fields++;
      }
    }
    check(fields <= 20, "11: some twenty fields of " + one);
    for (Method method : one.getDeclaredMethods()) {
      check(method.getParameterCount() <= 7, "11: seven parameters of " + method);
    }
  }

  private static void methods(String code) {
    Pattern head = Pattern.compile("^( +)[\\w\\[\\] ]+\\([^;]*\\) \\{$");
    String[] lines = code.split("\n");
    int found = 0;
    for (int i = 0; i < lines.length; i++) {
      Matcher matcher = head.matcher(lines[i]);
      if (!matcher.matches() || lines[i].matches(" *(if|for|while|switch|else|return).*")) continue;
      int end = i;
      while (end < lines.length && !lines[end].equals(matcher.group(1) + "}")) end++;
      found++;
      check(end - i + 1 <= 60, "11: some sixty lines: " + lines[i].trim() + " has " + (end - i + 1));
    }
    check(found > 80, "11: methods looked at: " + found);
  }
}
