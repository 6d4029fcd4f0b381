import java.lang.reflect.Method;
import java.util.ArrayList;
import java.util.HashMap;
import java.util.List;
import java.util.Map;
import java.util.Random;

/** Long runs of calls, good and bad ones, held against PlainCity answer by answer. */
public final class MeasuredTest {
  private static final int RUNS = 500;
  /** With a look behind each third one these are the 512 calls that an object has. */
  private static final int CALLS = 384;
  private static final int CALLS_A_LOOK = 3;

  /** Name, how often, then a parameter each: S street, P place, H house, B whether, or least..greatest. */
  private static final String[] FACE = {
      "street 12 P 1..50", "set 4 0..2 0..60", "coal 6 0..3000", "house 16 S 10..120 0..9 0..20 B",
      "row 6 0..3 0..24", "lose 2 0..3", "put 12 0..3 0..12 0..20", "copy 6 0..3 0..8 0..3 0..8 0..12",
      "lead 8 H -1..3", "end 8 S 0..200", "clear 3 S", "draw 5 S B", "brew 4 S 0..60",
      "turn 20 S 0..2 D 0..23 1..6", "let 8 S 0..167 0..1", "clashes 6 0..2", "hours 26 1..40",
      "iron 2 S", "renew 3 S", "stand 6 0..2 P", "way 3 P P", "fire 10 S 0..2",
      "reading 14 S 100..160 80..130 0..50", "span 8 S 0..1", "best 6 0..2000", "bestWorth 6 0..2000",
      "days 3 M 0..400", "dayOf 4 M 0..400 S", "law 6 0..999 0..99 0..99 0..300", "rate 6 H 0..300",
      "houseOf 6 H 0..3", "streetOf 6 S 0..6", "count 6 0..19"};

  private final Random random;
  private final WoodenMains city = new WoodenMains();
  private final PlainCity plain = new PlainCity();
  private final StringBuilder told = new StringBuilder();
  private final int mostDay;
  private final int mostStreets;
  private static final Map<String, Integer> answersBelow = new HashMap<>();

  private MeasuredTest(int seed) {
    random = new Random(seed);
    mostDay = random.nextInt(7);
    mostStreets = 1 + random.nextInt(10);
  }

  public static void main(String[] args) throws Exception {
    List<String> often = new ArrayList<>();
    for (String line : FACE) {
      for (int i = Integer.parseInt(line.split(" ")[1]); i > 0; i--) often.add(line);
    }
    for (int run = 0; run < RUNS; run++) {
      MeasuredTest test = new MeasuredTest(run);
      for (int i = 0; i < CALLS; i++) {
        String fault = test.callOnce(often.get(test.random.nextInt(often.size())));
        if (fault == null && i % CALLS_A_LOOK == 0) fault = test.look();
        if (fault != null) {
          System.out.println("run " + run + ":\n" + test.told + fault);
          System.exit(1);
        }
      }
    }
    checkReach();
    System.out.println(RUNS + " runs of " + CALLS + " calls are as measured");
  }

  /** A run that never came to a refusal would say nothing about it. */
  private static void checkReach() {
    String[] due = {"-1", "-2", "-3", "-4", "-5", "-6", "-7", "-9"};
    for (String number : due) {
      if (answersBelow.getOrDefault(number, 0) < 20) {
        System.out.println("too few answers " + number + ": " + answersBelow);
        System.exit(1);
      }
    }
  }

  private String callOnce(String line) throws Exception {
    String[] words = line.split(" ");
    String name = words[0];
    if (name.equals("street") && plain.count(1) >= mostStreets && random.nextInt(8) != 0) return null;
    Object[] values = new Object[words.length - 2];
    Class<?>[] types = new Class<?>[values.length];
    for (int i = 0; i < values.length; i++) {
      values[i] = valueOf(words[i + 2]);
      types[i] = values[i] instanceof Boolean ? boolean.class : int.class;
    }
    if (name.equals("hours") && random.nextInt(15) == 0) values[0] = random.nextInt(1200);
    Method real = WoodenMains.class.getMethod(name, types);
    Method due = PlainCity.class.getDeclaredMethod(name, types);
    int got = (Integer) real.invoke(city, values);
    int want = (Integer) due.invoke(plain, values);
    String call = name + java.util.Arrays.toString(values) + " answered " + got;
    told.append(call).append('\n');
    if (want < 0) answersBelow.merge(Integer.toString(want), 1, Integer::sum);
    return got == want ? null : "due is " + want;
  }

  /** Another one each time: what is wrong stays wrong, and some look comes to it. */
  private String look() {
    int street = random.nextInt(Math.max(1, plain.count(1)));
    int house = random.nextInt(Math.max(1, plain.count(2)));
    switch (random.nextInt(3)) {
      case 0:
        int it = random.nextInt(20);
        return faultOf("count(" + it + ")", city.count(it), plain.count(it));
      case 1:
        int ofHouse = random.nextInt(4);
        return faultOf("houseOf(" + house + ", " + ofHouse + ")", city.houseOf(house, ofHouse),
            plain.houseOf(house, ofHouse));
      default:
        int ofStreet = random.nextInt(7);
        return faultOf("streetOf(" + street + ", " + ofStreet + ")", city.streetOf(street, ofStreet),
            plain.streetOf(street, ofStreet));
    }
  }

  private static String faultOf(String call, int got, int want) {
    return got == want ? null : call + " answered " + got + ", due is " + want;
  }

  private Object valueOf(String kind) {
    if (kind.equals("B")) return random.nextBoolean();
    int streets = plain.count(1);
    int houses = plain.count(2);
    switch (kind) {
      case "S": return around(0, streets - 1);
      case "P": return around(-1, streets - 1);
      case "H": return around(0, houses - 1);
      case "D": return around(0, mostDay);
      case "M": return setOf(streets);
      default:
        int dots = kind.indexOf("..");
        return around(Integer.parseInt(kind.substring(0, dots)), Integer.parseInt(kind.substring(dots + 2)));
    }
  }

  /** Few large sets: the plain search tries seven days for each street. */
  private int setOf(int streets) {
    int draw = random.nextInt(40);
    if (draw == 0) return around(0, 1023);
    if (streets == 0) return 0;
    int set = 0;
    for (int i = draw < 3 ? 7 : 4; i > 0; i--) set |= 1 << random.nextInt(streets);
    return set;
  }

  private int around(int least, int greatest) {
    int draw = random.nextInt(100);
    if (draw == 0) return least - 1;
    if (draw == 1) return greatest + 1;
    if (draw == 2) return random.nextBoolean() ? Integer.MIN_VALUE : Integer.MAX_VALUE;
    if (draw == 3) return random.nextInt();
    if (draw < 8 || greatest <= least) return least;
    if (draw < 12) return greatest;
    return least + random.nextInt(greatest - least + 1);
  }
}
