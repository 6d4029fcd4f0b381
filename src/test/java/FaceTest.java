import java.lang.reflect.Constructor;
import java.lang.reflect.Field;
import java.lang.reflect.Method;
import java.lang.reflect.Modifier;
import java.nio.file.Files;
import java.nio.file.Path;
import java.util.Set;
import java.util.TreeSet;
import java.util.regex.Matcher;
import java.util.regex.Pattern;

/** The public face of the document, and that nothing else is to be seen from outside. */
public final class FaceTest {
  private static final Path DOC = Path.of("../shared/DOC.md");
  private static int wrong = 0;

  public static void main(String[] args) throws Exception {
    checkFace();
    checkHidden();
    if (wrong != 0) System.exit(1);
    System.out.println("the face is as due");
  }

  private static void tell(String fault) {
    wrong++;
    System.out.println(fault);
  }

  private static void checkFace() throws Exception {
    Set<String> due = new TreeSet<>();
    Matcher told = Pattern.compile("(?m)^    public (int \\w+\\(.*\\));$").matcher(Files.readString(DOC));
    while (told.find()) {
      due.add(told.group(1).replaceAll("(int|boolean) \\w+(?=[,)])", "$1"));
    }
    if (due.size() != 33) tell("the document's face has " + due.size() + " methods, not 33");
    Set<String> there = new TreeSet<>();
    Set<String> hidden = new TreeSet<>();
    for (Method m : WoodenMains.class.getDeclaredMethods()) {
      if (m.isSynthetic()) continue;
      if (Modifier.isPrivate(m.getModifiers())) {
        hidden.add(m.getName());
      } else {
        there.add(faceOf(m));
      }
    }
    if (!there.equals(due)) tell("the methods are " + there + ", due are " + due);
    for (String method : due) {
      String name = method.substring(method.indexOf(' ') + 1, method.indexOf('('));
      if (hidden.contains(name)) tell("a private method bears the name of a public one: " + name);
    }
    int modifiers = WoodenMains.class.getModifiers();
    if (!Modifier.isPublic(modifiers) || !Modifier.isFinal(modifiers)) tell("the class is public and final");
    Constructor<?>[] makers = WoodenMains.class.getDeclaredConstructors();
    if (makers.length != 1 || !Modifier.isPublic(makers[0].getModifiers())
        || makers[0].getParameterCount() != 0) {
      tell("there is one public constructor, without parameters");
    }
  }

  private static String faceOf(Method m) {
    StringBuilder text = new StringBuilder(m.getReturnType().getName());
    text.append(' ').append(m.getName()).append('(');
    String between = "";
    for (Class<?> type : m.getParameterTypes()) {
      text.append(between).append(type.getName());
      between = ", ";
    }
    return text.append(')').toString();
  }

  private static void checkHidden() {
    for (Field f : WoodenMains.class.getDeclaredFields()) {
      if (!f.isSynthetic() && !Modifier.isPrivate(f.getModifiers())) tell("a field is not private: " + f);
    }
    for (Class<?> c : WoodenMains.class.getDeclaredClasses()) {
      if (Modifier.isPublic(c.getModifiers()) || Modifier.isProtected(c.getModifiers())) {
        tell("a class inside is to be seen from outside: " + c);
      }
    }
  }
}
