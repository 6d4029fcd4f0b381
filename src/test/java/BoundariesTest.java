import java.lang.reflect.InvocationTargetException;
import java.lang.reflect.Method;
import java.lang.reflect.Modifier;
import java.util.ArrayList;
import java.util.Arrays;
import java.util.Comparator;
import java.util.List;
import java.util.Set;
import java.util.TreeSet;

/**
 * Each sentence of the document by a test of its own, at its boundaries: the last input that is
 * allowed, the first that is not, and that a refused call changes nothing. It also holds the tests
 * to the document: each names a sentence that stands there, and none of its words is without a test.
 */
public final class BoundariesTest {
  private static final List<Class<?>> TESTS = List.of(CityBounds.class, StreetBounds.class, HouseBounds.class,
      RowBounds.class, EndBounds.class, TurnBounds.class, HourBounds.class, LeakBounds.class, DayBounds.class,
      LawBounds.class);
  /** count() tells numbers of refusals, and refuses nothing itself. */
  private static final int COUNT = 34;

  public static void main(String[] args) throws Exception {
    Document document = new Document();
    List<Set<Integer>> refused = new ArrayList<>();
    for (int promise = 0; promise <= Document.PROMISES; promise++) refused.add(new TreeSet<>());
    int tests = 0;
    for (Class<?> group : TESTS) {
      for (Method test : testsOf(group)) {
        run(test, document, refused);
        tests++;
      }
    }
    checkReach(document, refused);
    System.out.println(tests + " sentences have a test of their own, " + Bounds.wrongInAll() + " faults");
    if (Bounds.wrongInAll() != 0) System.exit(1);
  }

  private static List<Method> testsOf(Class<?> group) {
    return Arrays.stream(group.getDeclaredMethods())
        .filter(m -> m.isAnnotationPresent(Holds.class) || !Modifier.isPrivate(m.getModifiers()))
        .sorted(Comparator.comparing(Method::getName)).toList();
  }

  private static void run(Method test, Document document, List<Set<Integer>> refused) throws Exception {
    Holds held = test.getAnnotation(Holds.class);
    Bounds.begin(test.getDeclaringClass().getName() + "." + test.getName());
    if (held == null) {
      Bounds.tell("it names no sentence");
      return;
    }
    String section = held.promise() == 0 ? "terms" : "promise " + held.promise();
    Bounds.begin(section + ", '" + held.words() + "', " + test.getName());
    if (!document.name(held.promise(), held.words())) Bounds.tell("the document has no such sentence");
    try {
      test.invoke(null);
    } catch (InvocationTargetException thrown) {
      Bounds.tell("threw " + thrown.getCause());
    }
    if (Bounds.askedSinceBegin() == 0) Bounds.tell("it asks nothing");
    refused.get(held.promise()).addAll(Bounds.refusalsSinceBegin());
  }

  private static void checkReach(Document document, List<Set<Integer>> refused) {
    for (int promise = 0; promise <= Document.PROMISES; promise++) {
      Bounds.begin(promise == 0 ? "terms" : "promise " + promise);
      List<String> unnamed = document.unnamed(promise);
      if (!unnamed.isEmpty()) Bounds.tell("no test names these words: " + String.join(" ", unnamed));
      if (promise == 0 || promise == COUNT) continue;
      for (int number : document.refusalsOf(promise)) {
        if (!refused.get(promise).contains(number)) Bounds.tell("no test comes to its refusal -" + number);
      }
    }
  }
}
