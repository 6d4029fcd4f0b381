import java.util.ArrayList;
import java.util.List;

/** What tests of boundaries share: what is due, and that a refused call changes nothing. */
final class Bounds {
  /** Calls that bring a new object to some state; they are made again for every look at it. */
  interface Making {
    void make(WoodenMains x);
  }

  interface Call {
    int on(WoodenMains x);
  }

  static final int LEAST = Integer.MIN_VALUE;
  static final int MOST = Integer.MAX_VALUE;
  private static final int ASIDE = 2000000000;

  /** Looks at one object; with what made it they stay within 512 calls. */
  private static final int LOOKS_AT_ONE = 220;
  private static final List<List<Call>> LOOKS = looks();

  private static String held = "";
  private static int asked = 0;
  private static int wrong = 0;
  private static final List<Integer> refusalsSeen = new ArrayList<>();

  private Bounds() {}

  static void begin(String sentence) {
    held = sentence;
    asked = 0;
    refusalsSeen.clear();
  }

  static int askedSinceBegin() {
    return asked;
  }

  /** From 1 for -1 to 7 for -7. */
  static List<Integer> refusalsSinceBegin() {
    return refusalsSeen;
  }

  static int wrongInAll() {
    return wrong;
  }

  static void tell(String fault) {
    wrong++;
    System.out.println(held + ": " + fault);
  }

  static void due(int got, int want) {
    asked++;
    if (got != want) tell("line " + lineOfTest() + " answered " + got + ", due is " + want);
  }

  private static int lineOfTest() {
    for (StackTraceElement line : new Throwable().getStackTrace()) {
      if (!line.getClassName().equals(Bounds.class.getName())) return line.getLineNumber();
    }
    return 0;
  }

  static WoodenMains made(Making city) {
    WoodenMains x = new WoodenMains();
    city.make(x);
    return x;
  }

  /** Each of these calls, on a city of its own, is refused by this number and changes nothing. */
  static void refused(int number, Making city, Call... calls) {
    for (Call call : calls) {
      due(call.on(made(city)), number);
      dueUnchanged(number, city, call);
    }
  }

  /** As refused(), of a call that may answer -1 otherwise. */
  static void refusedAside(int number, Making city, Call... calls) {
    for (Call call : calls) {
      due(call.on(made(city)), ASIDE - number);
      dueUnchanged(number, city, call);
    }
  }

  private static void dueUnchanged(int number, Making city, Call call) {
    refusalsSeen.add(-number);
    for (List<Call> part : LOOKS) {
      WoodenMains without = made(city);
      WoodenMains with = made(city);
      call.on(with);
      for (int n = 1; n <= 7; n++) {
        due(with.count(10 + n), without.count(10 + n) + (n == -number ? 1 : 0));
      }
      for (Call look : part) due(look.on(with), look.on(without));
    }
  }

  private static List<List<Call>> looks() {
    List<Call> still = new ArrayList<>(looksAround());
    still.addAll(looksBySearch());
    for (int street = 0; street < 10; street++) still.addAll(looksAtWeek(street));
    still.addAll(looksAtRates());
    List<List<Call>> all = new ArrayList<>();
    for (int from = 0; from < still.size(); from += LOOKS_AT_ONE) {
      all.add(still.subList(from, Math.min(still.size(), from + LOOKS_AT_ONE)));
    }
    all.add(looksThatChange());
    all.add(looksAfter(24));
    all.add(looksAfter(168));
    return all;
  }

  private static List<Call> looksAround() {
    List<Call> looks = new ArrayList<>();
    for (int what = 0; what < 20; what++) {
      int it = what;
      if (what < 11 || what > 17) looks.add(x -> x.count(it));
    }
    for (int street = 0; street < 10; street++) {
      int s = street;
      for (int what = 0; what < 7; what++) {
        int it = what;
        looks.add(x -> x.streetOf(s, it));
      }
      looks.add(x -> x.span(s, 0));
      looks.add(x -> x.span(s, 1));
    }
    for (int house = 0; house < 24; house++) {
      int h = house;
      for (int what = 0; what < 4; what++) {
        int it = what;
        looks.add(x -> x.houseOf(h, it));
      }
    }
    return looks;
  }

  private static List<Call> looksBySearch() {
    List<Call> looks = new ArrayList<>();
    for (int from = -1; from < 10; from++) {
      for (int to = -1; to < 10; to++) {
        int a = from;
        int b = to;
        looks.add(x -> x.way(a, b));
      }
    }
    for (int cock = 0; cock < 3; cock++) {
      int it = cock;
      looks.add(x -> x.clashes(it));
    }
    for (int street = 0; street < 10; street++) {
      int s = street;
      looks.add(x -> x.fire(s, 0));
      looks.add(x -> x.fire(s, 1));
      looks.add(x -> x.fire(s, 2));
      looks.add(x -> x.days(1 << s, 100));
      looks.add(x -> x.dayOf(31, 100, s));
    }
    for (int sum : new int[] {0, 300, 1000, 10000}) {
      looks.add(x -> x.best(sum));
      looks.add(x -> x.bestWorth(sum));
    }
    return looks;
  }

  private static List<Call> looksAtWeek(int street) {
    List<Call> looks = new ArrayList<>();
    for (int hour = 0; hour < 168; hour++) {
      int h = hour;
      looks.add(x -> x.let(street, h, 0));
      looks.add(x -> x.let(street, h, 1));
    }
    return looks;
  }

  private static List<Call> looksAtRates() {
    List<Call> looks = new ArrayList<>();
    for (int day = 0; day <= 300; day++) {
      int d = day;
      looks.add(x -> x.rate(0, d));
    }
    for (int house = 0; house < 24; house++) {
      int h = house;
      looks.add(x -> x.rate(h, 0));
      looks.add(x -> x.rate(h, 300));
    }
    return looks;
  }

  /** Some of what is kept is told only by the call that changes it. */
  private static List<Call> looksThatChange() {
    List<Call> looks = new ArrayList<>();
    for (int r = 0; r < 4; r++) {
      int row = r;
      for (int p = 0; p <= 24; p++) {
        int place = p;
        looks.add(x -> x.put(row, place, 0));
      }
      looks.add(x -> x.lose(row));
    }
    for (int house = 0; house < 24; house++) {
      int h = house;
      looks.add(x -> x.lead(h, -1));
    }
    for (int n = 0; n < 3; n++) {
      int it = n;
      looks.add(x -> x.stand(it, -1));
      looks.add(x -> x.set(it, 1));
    }
    for (int street = 0; street < 10; street++) {
      int s = street;
      looks.add(x -> x.clear(s));
      looks.add(x -> x.renew(s));
    }
    return looks;
  }

  private static List<Call> looksAfter(int hours) {
    List<Call> looks = new ArrayList<>();
    looks.add(x -> x.hours(hours));
    looks.addAll(looksAround());
    return looks;
  }
}
