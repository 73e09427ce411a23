import java.lang.reflect.Constructor;
import java.lang.reflect.Field;
import java.lang.reflect.Method;
import java.lang.reflect.Modifier;
import java.nio.file.Files;
import java.nio.file.Path;
import java.util.Arrays;
import java.util.Set;
import java.util.TreeSet;

/** The class has the face that the document tells, and no other. */
public final class FaceTest {
  public static void main(String[] args) throws Exception {
    Set<String> due = faceOfDocument(Files.readString(Path.of("../shared/DOC.md")));
    Set<String> got = faceOfClass();
    boolean right = got.equals(due) && Modifier.isFinal(LeadCases.class.getModifiers());
    for (String part : got) if (!due.contains(part)) System.out.println("not in the document: " + part);
    for (String part : due) if (!got.contains(part)) System.out.println("missing: " + part);
    System.out.println(right ? got.size() + " parts of the face are as due" : "the face is not as due");
    if (!right) System.exit(1);
  }

  private static Set<String> faceOfDocument(String document) {
    String face = document.substring(document.indexOf("```java") + 7);
    face = face.substring(face.indexOf('{') + 1, face.indexOf("```"));
    Set<String> parts = new TreeSet<>();
    for (String line : face.split(";")) {
      String part = line.trim();
      if (part.startsWith("public static final int")) {
        for (String constant : part.substring(24).split(",")) parts.add("int " + constant.replace(" ", ""));
      } else if (part.startsWith("public")) {
        parts.add(part.substring(7).replaceAll("\\b(int|char|boolean) \\w+([,)])", "$1$2"));
      }
    }
    return parts;
  }

  private static Set<String> faceOfClass() throws IllegalAccessException {
    Set<String> parts = new TreeSet<>();
    for (Field field : LeadCases.class.getDeclaredFields()) {
      int modifiers = field.getModifiers();
      if (Modifier.isPrivate(modifiers) || field.isSynthetic()) continue;
      boolean constant = modifiers == (Modifier.PUBLIC | Modifier.STATIC | Modifier.FINAL) && field.getType() == int.class;
      parts.add(constant ? "int " + field.getName() + "=" + field.getInt(null) : field.toString());
    }
    for (Constructor<?> made : LeadCases.class.getDeclaredConstructors()) {
      if (Modifier.isPrivate(made.getModifiers())) continue;
      parts.add("LeadCases(" + names(made.getParameterTypes(), ", ") + ")");
    }
    for (Method method : LeadCases.class.getDeclaredMethods()) {
      if (Modifier.isPrivate(method.getModifiers()) || method.isSynthetic()) continue;
      String thrown = names(method.getExceptionTypes(), ", ");
      parts.add(method.getReturnType().getSimpleName() + " " + method.getName()
          + "(" + names(method.getParameterTypes(), ", ") + ")" + (thrown.isEmpty() ? "" : " throws " + thrown));
    }
    return parts;
  }

  private static String names(Class<?>[] types, String between) {
    return String.join(between, Arrays.stream(types).map(Class::getSimpleName).toArray(String[]::new));
  }
}
