import java.util.ArrayDeque;
import java.util.ArrayList;
import java.util.Arrays;
import java.util.Comparator;
import java.util.HashMap;
import java.util.HashSet;
import java.util.List;
import java.util.Map;
import java.util.Set;

/**
 * The document once more, in the slowest and plainest way that its words allow: every search tries
 * everything. MeasuredTest holds WoodenMains against it.
 */
final class PlainCity {
  private static final class Street {
    int ahead;
    int length;
    int laid;
    boolean iron;
    boolean plug;
    boolean drawn;
    boolean tun;
    int size;
    int water;
  }

  private static final class House {
    int number;
    int street;
    int cistern;
    int floor;
    int use;
    boolean ball;
    int row = -1;
    int water;
    int dry;
  }

  private final List<Street> streets = new ArrayList<>();
  private final List<House> houses = new ArrayList<>();
  private final List<int[]> turns = new ArrayList<>();
  private final List<int[]> readings = new ArrayList<>();
  private final List<int[]> laws = new ArrayList<>();
  private final int[][] rows = new int[4][];
  private final int[] cocks = {-1, -1, -1};
  private final int[] refused = new int[8];
  private int hour;
  private int coal;
  private int output = 100;
  private int burn = 1;
  private int price = 10;
  private int leaked;
  private int drawnWater;
  private int wasted;
  private int spilled;
  private int worked;
  private int tunsTook;

  private int no(int number) {
    refused[-number]++;
    return number;
  }

  private int noAside(int number) {
    return 2000000000 - no(number);
  }

  private boolean noStreet(int street) {
    return street < 0 || street >= streets.size();
  }

  private boolean noHouse(int house) {
    return house < 0 || house >= houses.size();
  }

  private boolean noPlace(int place) {
    return place != -1 && noStreet(place);
  }

  int street(int ahead, int length) {
    if (noPlace(ahead)) return no(-1);
    if (length < 1) return no(-4);
    if (length > 50 || streets.size() == 10) return no(-6);
    Street s = new Street();
    s.ahead = ahead;
    s.length = length;
    s.laid = hour / 168;
    streets.add(s);
    return streets.size() - 1;
  }

  int set(int what, int v) {
    if (what != 0 && what != 1 && what != 2) return no(-2);
    if (v < (what == 2 ? 1 : 0)) return no(-4);
    if (v > (what == 0 ? 5000 : what == 1 ? 50 : 99)) return no(-6);
    int was;
    if (what == 0) {
      was = output;
      output = v;
    } else if (what == 1) {
      was = burn;
      burn = v;
    } else {
      was = price;
      price = v;
    }
    return was;
  }

  int coal(int n) {
    if (n < 0) return no(-4);
    if ((long) coal + n > 100000) return no(-6);
    coal += n;
    return coal;
  }

  int house(int street, int cistern, int floor, int use, boolean ball) {
    if (noStreet(street)) return no(-1);
    if (cistern < 10 || floor < 0 || use < 0) return no(-4);
    if (cistern > 500 || floor > 9 || use > 20 || houses.size() == 24) return no(-6);
    House h = new House();
    h.number = houses.size();
    h.street = street;
    h.cistern = cistern;
    h.floor = floor;
    h.use = use;
    h.ball = ball;
    houses.add(h);
    return h.number;
  }

  int row(int r, int n) {
    if (r < 0 || r > 3) return no(-1);
    if (n < 0) return no(-4);
    if (n > 24) return no(-6);
    rows[r] = new int[n];
    return n;
  }

  int lose(int r) {
    if (r < 0 || r > 3) return no(-1);
    int there = rows[r] == null ? 0 : 1;
    rows[r] = null;
    return there;
  }

  int put(int r, int place, int n) {
    if (r < 0 || r > 3) return no(-1);
    if (rows[r] == null) return no(-5);
    if (place < 0 || place >= rows[r].length) return no(-7);
    if (n < 0) return no(-4);
    if (n > 20) return no(-6);
    int was = rows[r][place];
    rows[r][place] = n;
    return was;
  }

  int copy(int r, int i, int s, int j, int n) {
    if (r < 0 || r > 3 || s < 0 || s > 3) return no(-1);
    if (rows[r] == null || rows[s] == null) return no(-5);
    if (n < 0 || i < 0 || j < 0) return no(-7);
    if ((long) i + n > rows[r].length || (long) j + n > rows[s].length) return no(-7);
    int[] asTheyWere = rows[r].clone();
    for (int k = 0; k < n; k++) rows[s][j + k] = asTheyWere[i + k];
    return n;
  }

  int lead(int house, int r) {
    if (noHouse(house) || r < -1 || r > 3) return noAside(-1);
    int was = houses.get(house).row;
    houses.get(house).row = r;
    return was;
  }

  int end(int street, int size) {
    if (noStreet(street)) return no(-1);
    Street s = streets.get(street);
    if (s.plug || s.tun) return no(-3);
    if (size < 0 || size >= 1 && size <= 49) return no(-4);
    if (size > 2000) return no(-6);
    s.plug = size == 0;
    s.tun = size != 0;
    s.size = size;
    s.water = 0;
    s.drawn = false;
    return 1;
  }

  int clear(int street) {
    if (noStreet(street)) return no(-1);
    Street s = streets.get(street);
    if (!s.plug && !s.tun) return no(-5);
    int water = s.tun ? s.water : 0;
    s.plug = false;
    s.tun = false;
    s.drawn = false;
    return water;
  }

  int draw(int street, boolean on) {
    if (noStreet(street)) return no(-1);
    Street s = streets.get(street);
    if (!s.plug && !s.tun) return no(-5);
    if (s.tun) return no(-2);
    boolean was = s.drawn;
    s.drawn = on;
    return was == on ? 0 : 1;
  }

  int brew(int street, int n) {
    if (noStreet(street)) return no(-1);
    Street s = streets.get(street);
    if (!s.plug && !s.tun) return no(-5);
    if (s.plug) return no(-2);
    if (n < 0) return no(-4);
    if (n > s.water) return no(-6);
    s.water -= n;
    return s.water;
  }

  int turn(int street, int cock, int day, int hour, int hours) {
    if (noStreet(street) || cock < 0 || cock > 2) return no(-1);
    if (day < 0 || hour < 0 || hours < 1) return no(-4);
    if (day > 6 || hour > 23 || hours > 6 || turns.size() == 30) return no(-6);
    turns.add(new int[] {street, cock, day * 24 + hour, hours});
    return turns.size() - 1;
  }

  private static Set<Integer> hoursOf(int[] turn) {
    Set<Integer> all = new HashSet<>();
    for (int i = 0; i < turn[3]; i++) all.add((turn[2] + i) % 168);
    return all;
  }

  private boolean isLet(int street, int weekHour) {
    for (int[] t : turns) {
      if (t[0] == street && hoursOf(t).contains(weekHour)) return true;
    }
    return false;
  }

  private boolean isOpen(int street, int weekHour) {
    if (street == -1) return true;
    return isLet(street, weekHour) && isOpen(streets.get(street).ahead, weekHour);
  }

  int let(int street, int hour, int what) {
    if (noStreet(street)) return no(-1);
    if (hour < 0) return no(-4);
    if (hour > 167) return no(-6);
    if (what != 0 && what != 1) return no(-2);
    return (what == 0 ? isLet(street, hour) : isOpen(street, hour)) ? 1 : 0;
  }

  private static int hoursFrom(int[] one, int[] other) {
    int hours = 0;
    while ((one[2] + hours) % 168 != other[2]) hours++;
    return hours;
  }

  int clashes(int cock) {
    if (cock < 0 || cock > 2) return no(-1);
    int twos = 0;
    for (int a = 0; a < turns.size(); a++) {
      for (int b = a + 1; b < turns.size(); b++) {
        int[] one = turns.get(a);
        int[] other = turns.get(b);
        if (one[1] != cock || other[1] != cock || one[0] == other[0]) continue;
        Set<Integer> common = hoursOf(one);
        common.retainAll(hoursOf(other));
        double least = walk(one[0], Set.of(other[0])) / 2.0;
        boolean late = hoursFrom(one, other) < Math.ceil(least) || hoursFrom(other, one) < Math.ceil(least);
        if (!common.isEmpty() || late) twos++;
      }
    }
    return twos;
  }

  private int drip(Street s) {
    if (s.iron) return 0;
    int weeks = hour / 168 - s.laid;
    return s.length * (1 + weeks / 4) / 10;
  }

  private int useNow(House h) {
    if (h.row == -1 || rows[h.row] == null || rows[h.row].length == 0) return h.use;
    int[] row = rows[h.row];
    return row[(hour % 24) % row.length];
  }

  private void anHour() {
    List<Integer> open = new ArrayList<>();
    for (int s = 0; s < streets.size(); s++) {
      if (isOpen(s, hour % 168)) open.add(s);
    }
    int left = 0;
    if (!open.isEmpty() && coal >= burn) {
      coal -= burn;
      worked++;
      left = output;
    }
    for (int s : open) {
      int lost = Math.min(left, drip(streets.get(s)));
      leaked += lost;
      left -= lost;
    }
    for (int number : open) {
      Street s = streets.get(number);
      if (s.plug && s.drawn) {
        int gone = Math.min(60, left);
        drawnWater += gone;
        left -= gone;
      }
      if (s.tun) {
        int gone = Math.min(Math.min(40, s.size - s.water), left);
        s.water += gone;
        tunsTook += gone;
        left -= gone;
      }
      List<House> inOrder = new ArrayList<>(houses);
      inOrder.sort(Comparator.comparingInt((House h) -> h.floor).thenComparingInt(h -> h.number));
      for (House h : inOrder) {
        if (h.street != number) continue;
        int room = h.cistern - h.water;
        int gone = Math.min(30, left);
        if (h.ball) gone = Math.min(gone, room);
        if (gone > room) wasted += gone - room;
        h.water = Math.min(h.cistern, h.water + gone);
        left -= gone;
      }
    }
    spilled += left;
    for (House h : houses) {
      h.water -= useNow(h);
      if (h.water < 0) {
        h.water = 0;
        h.dry++;
      }
    }
    hour++;
  }

  int hours(int n) {
    if (n < 1) return no(-4);
    if ((long) hour + n > 5000) return no(-6);
    for (int i = 0; i < n; i++) anHour();
    return hour;
  }

  int iron(int street) {
    if (noStreet(street)) return no(-1);
    Street s = streets.get(street);
    if (s.iron) return no(-3);
    s.iron = true;
    return hour / 168 - s.laid;
  }

  int renew(int street) {
    if (noStreet(street)) return no(-1);
    Street s = streets.get(street);
    if (s.iron) return no(-3);
    int weeks = hour / 168 - s.laid;
    s.laid = hour / 168;
    return weeks;
  }

  int stand(int cock, int street) {
    if (cock < 0 || cock > 2 || noPlace(street)) return noAside(-1);
    int was = cocks[cock];
    cocks[cock] = street;
    return was;
  }

  private List<Integer> neighbours(int place) {
    List<Integer> all = new ArrayList<>();
    if (place != -1) all.add(streets.get(place).ahead);
    for (int s = 0; s < streets.size(); s++) {
      if (streets.get(s).ahead == place) all.add(s);
    }
    return all;
  }

  /** The fewest steps from a place that come to all of these: every state of a walk, by breadth. */
  private int walk(int from, Set<Integer> all) {
    Map<List<Object>, Integer> steps = new HashMap<>();
    ArrayDeque<List<Object>> next = new ArrayDeque<>();
    Set<Integer> atFirst = new HashSet<>(all);
    atFirst.remove(from);
    List<Object> first = List.of(from, Set.copyOf(atFirst));
    steps.put(first, 0);
    next.add(first);
    while (!next.isEmpty()) {
      List<Object> state = next.remove();
      @SuppressWarnings("unchecked")
      Set<Integer> still = (Set<Integer>) state.get(1);
      if (still.isEmpty()) return steps.get(state);
      for (int place : neighbours((Integer) state.get(0))) {
        Set<Integer> then = new HashSet<>(still);
        then.remove(place);
        List<Object> reached = List.of(place, Set.copyOf(then));
        if (steps.putIfAbsent(reached, steps.get(state) + 1) == null) next.add(reached);
      }
    }
    throw new IllegalStateException("no walk");
  }

  int way(int a, int b) {
    if (noPlace(a) || noPlace(b)) return no(-1);
    return walk(a, Set.of(b));
  }

  int fire(int street, int what) {
    if (noStreet(street)) return no(-1);
    Street s = streets.get(street);
    if (!s.plug && !s.tun) return no(-5);
    if (s.tun || what < 0 || what > 2) return no(-2);
    Set<Integer> shut = new HashSet<>();
    for (int p = street; p != -1; p = streets.get(p).ahead) {
      if (!isLet(p, hour % 168)) shut.add(p);
    }
    if (shut.isEmpty()) return 0;
    int quickest = -1;
    int least = Integer.MAX_VALUE;
    for (int cock = 0; cock < 3; cock++) {
      int steps = walk(cocks[cock], shut);
      if (steps < least) {
        least = steps;
        quickest = cock;
      }
    }
    return what == 0 ? 4 * least + 2 * shut.size() : what == 1 ? quickest : shut.size();
  }

  int reading(int street, int in, int taken, int doubt) {
    if (noStreet(street)) return no(-1);
    if (in < 0 || taken < 0 || doubt < 0) return no(-4);
    if (in > 5000 || taken > 5000 || doubt > 50 || readings.size() == 40) return no(-6);
    readings.add(new int[] {street, in, taken, doubt});
    return readings.size();
  }

  private boolean allLet(int street, int leak) {
    for (int[] r : readings) {
      if (r[0] == street && Math.abs(leak - (r[1] - r[2])) > r[3]) return false;
    }
    return true;
  }

  int span(int street, int what) {
    if (noStreet(street)) return no(-1);
    if (what != 0 && what != 1) return no(-2);
    int found = -9;
    for (int leak = 0; leak <= 5000; leak++) {
      if (!allLet(street, leak)) continue;
      if (what == 0) return leak;
      found = leak;
    }
    return found;
  }

  private int worth(int street) {
    int open = 0;
    for (int h = 0; h < 168; h++) {
      if (isOpen(street, h)) open++;
    }
    return drip(streets.get(street)) * open;
  }

  private int[] bestIron(int sum) {
    int[] worths = new int[streets.size()];
    for (int s = 0; s < worths.length; s++) worths[s] = worth(s);
    int[] best = null;
    for (int set = 0; set < 1 << worths.length; set++) {
      int cost = 0;
      int worth = 0;
      boolean wood = true;
      for (int s = 0; s < worths.length; s++) {
        if ((set >> s & 1) == 0) continue;
        wood &= !streets.get(s).iron;
        cost += streets.get(s).length * price;
        worth += worths[s];
      }
      if (!wood || cost > sum) continue;
      int[] it = {-worth, Integer.bitCount(set), set};
      if (best == null || Arrays.compare(it, best) < 0) best = it;
    }
    return best;
  }

  int best(int sum) {
    if (sum < 0) return no(-4);
    if (sum > 10000) return no(-6);
    return bestIron(sum)[2];
  }

  int bestWorth(int sum) {
    if (sum < 0) return no(-4);
    if (sum > 10000) return no(-6);
    return -bestIron(sum)[0];
  }

  private int need(int street) {
    Street s = streets.get(street);
    int need = s.tun ? s.size - s.water : 0;
    for (House h : houses) {
      if (h.street == street) need += h.cistern - h.water;
    }
    return need;
  }

  private int refusalOfDays(int set, int sum) {
    for (int bit = 0; bit < 32; bit++) {
      if ((set >>> bit & 1) != 0 && noStreet(bit)) return -1;
    }
    if (Integer.bitCount(set) > 6) return -6;
    if (sum < 0) return -4;
    return sum > 100000 ? -6 : 0;
  }

  /** LACK, greatest NEEDS, then the days of the set's streets: all ways, in the order of the days. */
  private int[] bestDays(int set, int sum) {
    List<Integer> needs = new ArrayList<>();
    for (int s = 0; s < streets.size(); s++) {
      if ((set >> s & 1) != 0) needs.add(need(s));
    }
    int ways = 1;
    for (int i = 0; i < needs.size(); i++) ways *= 7;
    int[] best = null;
    for (int way = 0; way < ways; way++) {
      int[] it = new int[2 + needs.size()];
      int[] load = new int[7];
      int rest = way;
      for (int i = needs.size() - 1; i >= 0; i--) {
        it[2 + i] = rest % 7;
        load[rest % 7] += needs.get(i);
        rest /= 7;
      }
      for (int l : load) {
        it[0] += Math.max(0, l - sum);
        it[1] = Math.max(it[1], l);
      }
      if (best == null || Arrays.compare(it, best) < 0) best = it;
    }
    return best;
  }

  int days(int set, int sum) {
    int refusal = refusalOfDays(set, sum);
    return refusal != 0 ? no(refusal) : bestDays(set, sum)[0];
  }

  int dayOf(int set, int sum, int street) {
    int refusal = refusalOfDays(set, sum);
    if (refusal != 0) return no(refusal);
    if (noStreet(street)) return no(-1);
    if ((set >> street & 1) == 0) return -9;
    int place = 0;
    for (int s = 0; s < street; s++) place += set >> s & 1;
    return bestDays(set, sum)[2 + place];
  }

  int law(int house, int floor, int tens, int day) {
    if (house < 0 || floor < 0 || tens < 0 || day < hour / 24) return no(-4);
    if (house > 999 || floor > 99 || tens > 99 || day > 300 || laws.size() == 20) return no(-6);
    laws.add(new int[] {house, floor, tens, day});
    return laws.size() - 1;
  }

  int rate(int house, int day) {
    if (noHouse(house)) return no(-1);
    if (day < 0) return no(-4);
    if (day > 300) return no(-6);
    House h = houses.get(house);
    for (int d = day; d >= 0; d--) {
      for (int n = laws.size() - 1; n >= 0; n--) {
        int[] law = laws.get(n);
        if (law[3] == d) return law[0] + law[1] * h.floor + law[2] * (h.cistern / 10);
      }
    }
    return 0;
  }

  int houseOf(int house, int what) {
    if (noHouse(house)) return no(-1);
    if (what < 0 || what > 3) return no(-2);
    House h = houses.get(house);
    return new int[] {h.water, h.dry, useNow(h), h.street}[what];
  }

  int streetOf(int street, int what) {
    if (noStreet(street)) return no(-1);
    if (what < 0 || what > 6) return no(-2);
    Street s = streets.get(street);
    int[] all = {s.plug ? 1 : s.tun ? 2 : 0, s.tun ? s.water : 0, drip(s), s.iron ? 1 : 0,
        s.ahead == -1 ? -9 : s.ahead, s.plug && s.drawn ? 1 : 0, need(street)};
    return all[what];
  }

  int count(int what) {
    if (what < 0 || what > 19) return -9;
    int[] all = {hour, streets.size(), houses.size(), coal, leaked, drawnWater, wasted, spilled,
        turns.size(), readings.size(), laws.size(), refused[1], refused[2], refused[3], refused[4],
        refused[5], refused[6], refused[7], worked, tunsTook};
    return all[what];
  }
}
