import java.lang.reflect.Field;
import java.lang.reflect.InvocationTargetException;
import java.lang.reflect.Method;
import java.lang.reflect.Modifier;
import java.nio.file.Files;
import java.nio.file.Path;
import java.util.ArrayList;
import java.util.List;
import java.util.regex.Matcher;
import java.util.regex.Pattern;
import java.util.stream.Stream;

/** What README.md says of the class and of the tests holds. */
public final class ReadmeTest extends Checks {
  private static final Pattern CALL = Pattern.compile("shop\\.(\\w+)\\((.*)\\);\\s*// (.*)");
  private static final Pattern ROW = Pattern.compile("\\| `(\\w+)\\((.*?)\\)` \\| .* \\| ?(.*?) ?\\|");

  private static String readme;

  public static void main(String[] args) throws Exception {
    readme = Files.readString(Path.of("README.md"));
    part = "README, the example";
    example();
    part = "README, the constants";
    constants();
    part = "README, the calls";
    calls();
    part = "README, the tests";
    tests();
    end();
  }

  private static void example() throws IllegalAccessException {
    String code = readme.substring(readme.indexOf("```java") + 8);
    String[] lines = code.substring(0, code.indexOf("```")).split("\n");
    due(lines[0], "LeadCases shop = new LeadCases();");
    LeadCases shop = new LeadCases();
    for (int i = 1; i < lines.length; i++) {
      Matcher call = CALL.matcher(lines[i]);
      if (!call.matches()) {
        report("no call with an answer: " + lines[i]);
        continue;
      }
      due(call.group(1) + ": " + answerOf(shop, call), call.group(1) + ": " + call.group(3));
    }
  }

  private static String answerOf(LeadCases shop, Matcher call) throws IllegalAccessException {
    Method method = method(call.group(1));
    Object[] arguments = arguments(call.group(2));
    try {
      Object answer = method.invoke(shop, arguments);
      return answer instanceof Character ? "'" + answer + "'" : answer.toString();
    } catch (InvocationTargetException e) {
      return "throws " + e.getCause().getClass().getSimpleName();
    }
  }

  private static Method method(String name) {
    for (Method method : LeadCases.class.getMethods()) if (method.getName().equals(name)) return method;
    throw new AssertionError("no method " + name);
  }

  private static Object[] arguments(String told) {
    List<Object> arguments = new ArrayList<>();
    if (!told.isEmpty()) for (String one : told.split(", ")) arguments.add(argument(one));
    return arguments.toArray();
  }

  private static Object argument(String told) {
    if (told.startsWith("'")) return told.charAt(1);
    if (told.equals("true") || told.equals("false")) return told.equals("true");
    return Integer.valueOf(told);
  }

  private static void constants() throws IllegalAccessException {
    for (Field field : LeadCases.class.getFields()) {
      if (!Modifier.isStatic(field.getModifiers())) continue;
      told("`" + field.getName() + " = " + field.getInt(null) + "`");
    }
  }

  /** Each public method has one row, with as many arguments as it takes, and with its throws clause. */
  private static void calls() {
    List<String> rows = new ArrayList<>();
    Matcher row = ROW.matcher(readme);
    while (row.find()) {
      int arguments = row.group(2).isEmpty() ? 0 : row.group(2).split(", ").length;
      rows.add(row.group(1) + " of " + arguments + " throws " + thrown(row.group(3)));
    }
    int methods = 0;
    for (Method method : LeadCases.class.getDeclaredMethods()) {
      if (!Modifier.isPublic(method.getModifiers())) continue;
      methods++;
      String due = method.getName() + " of " + method.getParameterCount() + " throws " + thrown(method);
      checks++;
      if (!rows.contains(due)) report("no row for " + due);
    }
    due(rows.size(), methods);
  }

  private static String thrown(String told) {
    StringBuilder out = new StringBuilder();
    Matcher word = Pattern.compile("(?:^|, )(index|argument|state)\\b").matcher(told);
    while (word.find()) out.append(word.group(1)).append(' ');
    return out.toString();
  }

  private static String thrown(Method method) {
    StringBuilder out = new StringBuilder();
    for (Class<?> type : method.getExceptionTypes()) {
      out.append(type == INDEX ? "index" : type == RANGE ? "argument" : type == STATE ? "state" : type.getName()).append(' ');
    }
    return out.toString();
  }

  /** Each test is told, and each that is told is there. */
  private static void tests() throws java.io.IOException {
    try (Stream<Path> files = Files.list(Path.of("src/test/java"))) {
      files.forEach(file -> told("`" + file.getFileName().toString().replace(".java", "") + "`"));
    }
    Matcher name = Pattern.compile("`(\\w+Test)`").matcher(readme);
    while (name.find()) {
      checks++;
      if (!Files.exists(Path.of("src/test/java", name.group(1) + ".java"))) report("there is no " + name.group(1));
    }
    told("bash .ci/run");
  }

  private static void told(String what) {
    checks++;
    if (!readme.contains(what)) report("README.md does not tell " + what);
  }
}
