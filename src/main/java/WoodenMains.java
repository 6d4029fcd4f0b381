import java.util.ArrayList;
import java.util.Arrays;

/**
 * A city's water by wooden mains: streets open by turns of the week, cisterns, an engine that burns
 * coal, leaks, iron, turncocks and rates. Words in capitals are those of the document.
 */
public final class WoodenMains {
  private static final int NOBODY = -1;
  private static final int OTHER = -2;
  private static final int STATE = -3;
  private static final int BELOW = -4;
  private static final int MISSING = -5;
  private static final int ROOM = -6;
  private static final int BEYOND = -7;
  private static final int NOT_REFUSED = 0;
  private static final int NONE = -9;
  /** Calls that may answer -1 otherwise tell their REFUSALS as this number less them. */
  private static final int ASIDE = 2000000000;

  private static final int MOST_HOURS = 5000;
  private static final int HOURS_OF_DAY = 24;
  private static final int HOURS_OF_WEEK = 168;
  private static final int DAYS_OF_WEEK = 7;

  private static final int ENGINE = -1;
  private static final int NO_ROW = -1;

  private static final int MOST_STREETS = 10;
  private static final int MOST_LENGTH = 50;
  private static final int MOST_HOUSES = 24;
  private static final int LEAST_CISTERN = 10;
  private static final int MOST_CISTERN = 500;
  private static final int MOST_FLOOR = 9;
  private static final int MOST_USE = 20;
  private static final int ROWS = 4;
  private static final int MOST_PLACES = 24;
  private static final int MOST_TURNS = 30;
  private static final int MOST_TURN_HOURS = 6;
  private static final int COCKS = 3;
  private static final int MOST_READINGS = 40;
  private static final int MOST_FLOW = 5000;
  private static final int MOST_DOUBT = 50;
  private static final int MOST_COAL = 100000;
  private static final int MOST_IRON_SUM = 10000;
  private static final int MOST_DAY_STREETS = 6;
  private static final int MOST_DAY_SUM = 100000;
  private static final int MOST_LAWS = 20;
  private static final int MOST_LAW_HOUSE = 999;
  private static final int MOST_LAW_PART = 99;
  private static final int MOST_DAY = 300;
  /** NEEDS of all STREETS together stay far below it. */
  private static final int ABOVE_ALL_NEEDS = 1000000;

  private static final int NOTHING = 0;
  private static final int PLUG = 1;
  private static final int TUN = 2;
  private static final int LEAST_TUN = 50;
  private static final int MOST_TUN = 2000;

  private static final int PLUG_INTAKE = 60;
  private static final int TUN_INTAKE = 40;
  private static final int HOUSE_INTAKE = 30;
  private static final int MINUTES_A_STEP = 4;
  private static final int MINUTES_A_STREET = 2;

  private static final int OUTPUT = 0;
  private static final int BURN = 1;
  private static final int PRICE = 2;
  private static final int[] LEAST_SETTINGS = {0, 0, 1};
  private static final int[] MOST_SETTINGS = {5000, 50, 99};

  private final ArrayList<Street> streets = new ArrayList<>();
  private final ArrayList<House> houses = new ArrayList<>();
  private final ArrayList<Turn> turns = new ArrayList<>();
  private final ArrayList<Law> laws = new ArrayList<>();
  private final Row[] rows = new Row[ROWS];
  private final int[] cockPlaces = {ENGINE, ENGINE, ENGINE};
  private final int[] settings = {100, 1, 10};
  private final int[] refusals = new int[-BEYOND + 1];
  private final Week week = new Week();
  private final Tally tally = new Tally();
  private final IronSearch ironSearch = new IronSearch();
  private final DaySearch daySearch = new DaySearch();
  private int hour;
  private int coalThere;
  private int readingsTold;

  public WoodenMains() {
    for (int r = 0; r < ROWS; r++) {
      rows[r] = new Row();
    }
  }

  public int street(int ahead, int length) {
    if (!isPlace(ahead)) return refuse(NOBODY);
    if (length < 1) return refuse(BELOW);
    if (length > MOST_LENGTH || streets.size() >= MOST_STREETS) return refuse(ROOM);
    streets.add(new Street(ahead, length, weekNow()));
    return streets.size() - 1;
  }

  public int set(int what, int v) {
    if (what < OUTPUT || what > PRICE) return refuse(OTHER);
    if (v < LEAST_SETTINGS[what]) return refuse(BELOW);
    if (v > MOST_SETTINGS[what]) return refuse(ROOM);
    int before = settings[what];
    settings[what] = v;
    return before;
  }

  public int coal(int n) {
    if (n < 0) return refuse(BELOW);
    if (n > MOST_COAL - coalThere) return refuse(ROOM);
    coalThere += n;
    return coalThere;
  }

  public int house(int street, int cistern, int floor, int use, boolean ball) {
    Street its = streetAt(street);
    if (its == null) return refuse(NOBODY);
    if (cistern < LEAST_CISTERN || floor < 0 || use < 0) return refuse(BELOW);
    if (cistern > MOST_CISTERN || floor > MOST_FLOOR || use > MOST_USE) return refuse(ROOM);
    if (houses.size() >= MOST_HOUSES) return refuse(ROOM);
    House built = new House(street, cistern, floor, use, ball);
    houses.add(built);
    its.admit(built);
    return houses.size() - 1;
  }

  public int row(int r, int n) {
    Row it = rowAt(r);
    if (it == null) return refuse(NOBODY);
    if (n < 0) return refuse(BELOW);
    if (n > MOST_PLACES) return refuse(ROOM);
    it.makeAnew(n);
    return n;
  }

  public int lose(int r) {
    Row it = rowAt(r);
    if (it == null) return refuse(NOBODY);
    if (it.isMissing()) return 0;
    it.forget();
    return 1;
  }

  public int put(int r, int place, int n) {
    Row it = rowAt(r);
    if (it == null) return refuse(NOBODY);
    if (it.isMissing()) return refuse(MISSING);
    if (!it.hasPlaces(place, 1)) return refuse(BEYOND);
    if (n < 0) return refuse(BELOW);
    if (n > MOST_USE) return refuse(ROOM);
    int before = it.numbers[place];
    it.numbers[place] = n;
    return before;
  }

  public int copy(int r, int i, int s, int j, int n) {
    Row from = rowAt(r);
    Row to = rowAt(s);
    if (from == null || to == null) return refuse(NOBODY);
    if (from.isMissing() || to.isMissing()) return refuse(MISSING);
    if (!from.hasPlaces(i, n) || !to.hasPlaces(j, n)) return refuse(BEYOND);
    System.arraycopy(from.numbers, i, to.numbers, j, n);
    return n;
  }

  public int lead(int house, int r) {
    House it = houseAt(house);
    if (it == null || r != NO_ROW && rowAt(r) == null) return refuseAside(NOBODY);
    int before = it.leadingRow;
    it.leadingRow = r;
    return before;
  }

  public int end(int street, int size) {
    Street it = streetAt(street);
    if (it == null) return refuse(NOBODY);
    if (it.atEnd != NOTHING) return refuse(STATE);
    if (size != 0 && size < LEAST_TUN) return refuse(BELOW);
    if (size > MOST_TUN) return refuse(ROOM);
    it.setAtEnd(size == 0 ? PLUG : TUN, size);
    return 1;
  }

  public int clear(int street) {
    Street it = streetAt(street);
    if (it == null) return refuse(NOBODY);
    if (it.atEnd == NOTHING) return refuse(MISSING);
    int water = it.tunWater;
    it.setAtEnd(NOTHING, 0);
    return water;
  }

  public int draw(int street, boolean on) {
    Street it = streetAt(street);
    if (it == null) return refuse(NOBODY);
    if (it.atEnd == NOTHING) return refuse(MISSING);
    if (it.atEnd == TUN) return refuse(OTHER);
    if (it.plugDrawn == on) return 0;
    it.plugDrawn = on;
    return 1;
  }

  public int brew(int street, int n) {
    Street it = streetAt(street);
    if (it == null) return refuse(NOBODY);
    if (it.atEnd == NOTHING) return refuse(MISSING);
    if (it.atEnd == PLUG) return refuse(OTHER);
    if (n < 0) return refuse(BELOW);
    if (n > it.tunWater) return refuse(ROOM);
    it.tunWater -= n;
    return it.tunWater;
  }

  public int turn(int street, int cock, int day, int hour, int hours) {
    if (streetAt(street) == null || !isCock(cock)) return refuse(NOBODY);
    if (day < 0 || hour < 0 || hours < 1) return refuse(BELOW);
    if (day >= DAYS_OF_WEEK || hour >= HOURS_OF_DAY || hours > MOST_TURN_HOURS) return refuse(ROOM);
    if (turns.size() >= MOST_TURNS) return refuse(ROOM);
    Turn told = new Turn(street, cock, day * HOURS_OF_DAY + hour, hours);
    turns.add(told);
    week.add(told, streets);
    return turns.size() - 1;
  }

  public int let(int street, int hour, int what) {
    if (streetAt(street) == null) return refuse(NOBODY);
    if (hour < 0) return refuse(BELOW);
    if (hour >= HOURS_OF_WEEK) return refuse(ROOM);
    if (what < 0 || what > 1) return refuse(OTHER);
    int those = what == 0 ? week.letStreets(hour) : week.openStreets(hour);
    return hasStreet(those, street) ? 1 : 0;
  }

  public int clashes(int cock) {
    if (!isCock(cock)) return refuse(NOBODY);
    int twos = 0;
    for (int b = 1; b < turns.size(); b++) {
      Turn other = turns.get(b);
      if (other.cock != cock) continue;
      for (int a = 0; a < b; a++) {
        Turn one = turns.get(a);
        if (one.cock == cock && isClash(one, other)) twos++;
      }
    }
    return twos;
  }

  public int hours(int n) {
    if (n < 1) return refuse(BELOW);
    if (n > MOST_HOURS - hour) return refuse(ROOM);
    for (int i = 0; i < n; i++) {
      passHour();
    }
    return hour;
  }

  public int iron(int street) {
    Street it = streetAt(street);
    if (it == null) return refuse(NOBODY);
    if (it.ofIron) return refuse(STATE);
    it.ofIron = true;
    return it.layAnew(weekNow());
  }

  public int renew(int street) {
    Street it = streetAt(street);
    if (it == null) return refuse(NOBODY);
    if (it.ofIron) return refuse(STATE);
    return it.layAnew(weekNow());
  }

  public int stand(int cock, int street) {
    if (!isCock(cock) || !isPlace(street)) return refuseAside(NOBODY);
    int before = cockPlaces[cock];
    cockPlaces[cock] = street;
    return before;
  }

  public int way(int a, int b) {
    if (!isPlace(a) || !isPlace(b)) return refuse(NOBODY);
    return stepsBetween(a, b);
  }

  public int fire(int street, int what) {
    Street it = streetAt(street);
    if (it == null) return refuse(NOBODY);
    if (it.atEnd == NOTHING) return refuse(MISSING);
    if (it.atEnd == TUN || what < 0 || what > 2) return refuse(OTHER);
    int shut = shutUpTo(street);
    if (shut == 0) return 0;
    int opened = Integer.bitCount(shut);
    if (what == 2) return opened;
    int cock = quickestCock(shut);
    if (what == 1) return cock;
    return MINUTES_A_STEP * walkLength(cock, shut) + MINUTES_A_STREET * opened;
  }

  public int reading(int street, int in, int taken, int doubt) {
    Street it = streetAt(street);
    if (it == null) return refuse(NOBODY);
    if (in < 0 || taken < 0 || doubt < 0) return refuse(BELOW);
    if (in > MOST_FLOW || taken > MOST_FLOW || doubt > MOST_DOUBT) return refuse(ROOM);
    if (readingsTold >= MOST_READINGS) return refuse(ROOM);
    it.hemIn(in - taken - doubt, in - taken + doubt);
    readingsTold++;
    return readingsTold;
  }

  public int span(int street, int what) {
    Street it = streetAt(street);
    if (it == null) return refuse(NOBODY);
    if (what < 0 || what > 1) return refuse(OTHER);
    if (it.leastLeak > it.greatestLeak) return NONE;
    return what == 0 ? it.leastLeak : it.greatestLeak;
  }

  public int best(int sum) {
    int refusal = refusalOfIronSum(sum);
    if (refusal != NOT_REFUSED) return refuse(refusal);
    return findIron(sum);
  }

  public int bestWorth(int sum) {
    int refusal = refusalOfIronSum(sum);
    if (refusal != NOT_REFUSED) return refuse(refusal);
    return ironSearch.worthOf(findIron(sum));
  }

  public int days(int set, int sum) {
    int refusal = refusalOfDays(set, sum);
    if (refusal != NOT_REFUSED) return refuse(refusal);
    findDays(set, sum);
    return daySearch.bestLack;
  }

  public int dayOf(int set, int sum, int street) {
    int refusal = refusalOfDays(set, sum);
    if (refusal != NOT_REFUSED) return refuse(refusal);
    if (streetAt(street) == null) return refuse(NOBODY);
    if (!hasStreet(set, street)) return NONE;
    findDays(set, sum);
    int lesserStreets = set & (1 << street) - 1;
    return daySearch.bestDay(Integer.bitCount(lesserStreets));
  }

  public int law(int house, int floor, int tens, int day) {
    if (house < 0 || floor < 0 || tens < 0 || day < hour / HOURS_OF_DAY) return refuse(BELOW);
    if (house > MOST_LAW_HOUSE || floor > MOST_LAW_PART || tens > MOST_LAW_PART) return refuse(ROOM);
    if (day > MOST_DAY || laws.size() >= MOST_LAWS) return refuse(ROOM);
    laws.add(new Law(house, floor, tens, day));
    return laws.size() - 1;
  }

  public int rate(int house, int day) {
    House it = houseAt(house);
    if (it == null) return refuse(NOBODY);
    if (day < 0) return refuse(BELOW);
    if (day > MOST_DAY) return refuse(ROOM);
    Law inForce = lawOn(day);
    return inForce == null ? 0 : inForce.rateFor(it);
  }

  public int houseOf(int house, int what) {
    House it = houseAt(house);
    if (it == null) return refuse(NOBODY);
    switch (what) {
      case 0: return it.water;
      case 1: return it.timesDry;
      case 2: return useNow(it);
      case 3: return it.street;
      default: return refuse(OTHER);
    }
  }

  public int streetOf(int street, int what) {
    Street it = streetAt(street);
    if (it == null) return refuse(NOBODY);
    switch (what) {
      case 0: return it.atEnd;
      case 1: return it.tunWater;
      case 2: return it.dripIn(weekNow());
      case 3: return it.ofIron ? 1 : 0;
      case 4: return it.ahead == ENGINE ? NONE : it.ahead;
      case 5: return it.plugDrawn ? 1 : 0;
      case 6: return it.roomNow();
      default: return refuse(OTHER);
    }
  }

  public int count(int what) {
    switch (what) {
      case 0: return hour;
      case 1: return streets.size();
      case 2: return houses.size();
      case 3: return coalThere;
      case 4: return tally.leaked;
      case 5: return tally.drawn;
      case 6: return tally.wasted;
      case 7: return tally.spilled;
      case 8: return turns.size();
      case 9: return readingsTold;
      case 10: return laws.size();
      case 18: return tally.hoursWorked;
      case 19: return tally.tunsTook;
      default: return what >= 11 && what <= 17 ? refusals[what - 10] : NONE;
    }
  }

  private int refuse(int number) {
    if (number >= BEYOND && number <= NOBODY) refusals[-number]++;
    return number;
  }

  private int refuseAside(int number) {
    return ASIDE - refuse(number);
  }

  private Street streetAt(int number) {
    return number >= 0 && number < streets.size() ? streets.get(number) : null;
  }

  private House houseAt(int number) {
    return number >= 0 && number < houses.size() ? houses.get(number) : null;
  }

  private Row rowAt(int number) {
    return number >= 0 && number < ROWS ? rows[number] : null;
  }

  private static boolean isCock(int number) {
    return number >= 0 && number < COCKS;
  }

  private boolean isPlace(int place) {
    return place == ENGINE || streetAt(place) != null;
  }

  private int weekNow() {
    return hour / HOURS_OF_WEEK;
  }

  private static boolean hasStreet(int set, int street) {
    return (set >> street & 1) != 0;
  }

  private void passHour() {
    int open = week.openStreets(hour);
    int left = open != 0 ? pump() : 0;
    left = leak(open, left);
    left = serve(open, left);
    tally.spilled += left;
    drink();
    hour++;
  }

  private int pump() {
    if (coalThere < settings[BURN]) return 0;
    coalThere -= settings[BURN];
    tally.hoursWorked++;
    return settings[OUTPUT];
  }

  private int leak(int open, int left) {
    int still = left;
    for (int s = 0; s < streets.size(); s++) {
      if (!hasStreet(open, s)) continue;
      int lost = Math.min(still, streets.get(s).dripIn(weekNow()));
      tally.leaked += lost;
      still -= lost;
    }
    return still;
  }

  private int serve(int open, int left) {
    int still = left;
    for (int s = 0; s < streets.size(); s++) {
      if (hasStreet(open, s)) still -= streets.get(s).takeFrom(still, tally);
    }
    return still;
  }

  private void drink() {
    for (int h = 0; h < houses.size(); h++) {
      House it = houses.get(h);
      it.use(useNow(it));
    }
  }

  private int useNow(House it) {
    Row leading = rowAt(it.leadingRow);
    if (leading == null || leading.length <= 0) return it.useAsTold;
    return leading.numbers[hour % HOURS_OF_DAY % leading.length];
  }

  /** Whatever is ahead of a street was told before it, so of two places the greater number climbs. */
  private int stepsBetween(int a, int b) {
    int one = a;
    int other = b;
    int steps = 0;
    while (one != other && steps < 2 * MOST_STREETS) {
      if (one > other) {
        one = placeAheadOf(one);
      } else {
        other = placeAheadOf(other);
      }
      steps++;
    }
    return steps;
  }

  private int placeAheadOf(int place) {
    Street it = streetAt(place);
    return it == null ? ENGINE : it.ahead;
  }

  private boolean isClash(Turn one, Turn other) {
    if (one.street == other.street) return false;
    if (one.sharesHourWith(other)) return true;
    int hoursBetween = Math.min(one.hoursUntil(other), other.hoursUntil(one));
    int hoursOfWay = (stepsBetween(one.street, other.street) + 1) / 2;
    return hoursBetween < hoursOfWay;
  }

  /** The set of streets that a turncock must open so that water comes to this one. */
  private int shutUpTo(int street) {
    int onTheWay = 0;
    int place = street;
    for (int i = 0; i < MOST_STREETS && place != ENGINE; i++) {
      onTheWay |= 1 << place;
      place = placeAheadOf(place);
    }
    return onTheWay & ~week.letStreets(hour);
  }

  private int quickestCock(int shut) {
    int quickest = 0;
    for (int cock = 1; cock < COCKS; cock++) {
      if (walkLength(cock, shut) < walkLength(quickest, shut)) quickest = cock;
    }
    return quickest;
  }

  /**
   * The shut streets lie on one line from the engine, numbers growing along it: who has come to
   * both of its ends has come to all of them.
   */
  private int walkLength(int cock, int shut) {
    int nearest = Integer.numberOfTrailingZeros(shut);
    int farthest = 31 - Integer.numberOfLeadingZeros(shut);
    int toNearest = stepsBetween(cockPlaces[cock], nearest);
    int toFarthest = stepsBetween(cockPlaces[cock], farthest);
    return Math.min(toNearest, toFarthest) + stepsBetween(nearest, farthest);
  }

  private static int refusalOfIronSum(int sum) {
    if (sum < 0) return BELOW;
    return sum > MOST_IRON_SUM ? ROOM : NOT_REFUSED;
  }

  private int findIron(int sum) {
    for (int s = 0; s < streets.size(); s++) {
      Street it = streets.get(s);
      // A main that is of iron already must fit into no sum.
      int cost = it.ofIron ? MOST_IRON_SUM + 1 : it.length * settings[PRICE];
      ironSearch.tell(s, cost, it.dripIn(weekNow()) * week.hoursOpen(s));
    }
    return ironSearch.bestSet(streets.size(), sum);
  }

  private int refusalOfDays(int set, int sum) {
    if ((set & ~((1 << streets.size()) - 1)) != 0) return NOBODY;
    if (Integer.bitCount(set) > MOST_DAY_STREETS) return ROOM;
    if (sum < 0) return BELOW;
    return sum > MOST_DAY_SUM ? ROOM : NOT_REFUSED;
  }

  private void findDays(int set, int sum) {
    daySearch.begin(sum);
    for (int s = 0; s < streets.size(); s++) {
      if (hasStreet(set, s)) daySearch.tell(streets.get(s).roomNow());
    }
    daySearch.search();
  }

  private Law lawOn(int day) {
    Law inForce = null;
    for (int n = 0; n < laws.size(); n++) {
      Law it = laws.get(n);
      if (it.day <= day && (inForce == null || it.day >= inForce.day)) inForce = it;
    }
    return inForce;
  }

  /** A street with its main, what is at its end, and what readings let of its leak. */
  private static final class Street {
    final int ahead;
    final int length;
    int weekLaid;
    boolean ofIron;
    int atEnd = NOTHING;
    int tunSize;
    int tunWater;
    boolean plugDrawn;
    int leastLeak = 0;
    int greatestLeak = MOST_FLOW;
    House firstServed;

    Street(int ahead, int length, int weekLaid) {
      this.ahead = ahead;
      this.length = length;
      this.weekLaid = weekLaid;
    }

    int dripIn(int week) {
      return ofIron ? 0 : length * (1 + (week - weekLaid) / 4) / 10;
    }

    int layAnew(int week) {
      int lain = week - weekLaid;
      weekLaid = week;
      return lain;
    }

    void setAtEnd(int kind, int size) {
      atEnd = kind;
      tunSize = size;
      tunWater = 0;
      plugDrawn = false;
    }

    void hemIn(int least, int greatest) {
      leastLeak = Math.max(leastLeak, least);
      greatestLeak = Math.min(greatestLeak, greatest);
    }

    /** Behind houses of the same floor: those have lesser numbers and are served first. */
    void admit(House built) {
      House before = null;
      for (House it = firstServed; it != null && it.floor <= built.floor; it = it.nextServed) {
        before = it;
      }
      if (before == null) {
        built.nextServed = firstServed;
        firstServed = built;
      } else {
        built.nextServed = before.nextServed;
        before.nextServed = built;
      }
    }

    int takeFrom(int left, Tally tally) {
      int still = left - takeByPlug(left, tally);
      still -= takeByTun(still, tally);
      for (House it = firstServed; it != null; it = it.nextServed) {
        still -= it.takeFrom(still, tally);
      }
      return left - still;
    }

    private int takeByPlug(int left, Tally tally) {
      if (!plugDrawn) return 0;
      int taken = Math.min(PLUG_INTAKE, left);
      tally.drawn += taken;
      return taken;
    }

    private int takeByTun(int left, Tally tally) {
      int taken = Math.min(left, Math.min(TUN_INTAKE, tunSize - tunWater));
      tunWater += taken;
      tally.tunsTook += taken;
      return taken;
    }

    int roomNow() {
      int room = tunSize - tunWater;
      for (House it = firstServed; it != null; it = it.nextServed) {
        room += it.roomInCistern();
      }
      return room;
    }
  }

  /** A house; houses of a street make a chain in the order in which they are served. */
  private static final class House {
    final int street;
    final int cistern;
    final int floor;
    final int useAsTold;
    final boolean ball;
    int leadingRow = NO_ROW;
    int water;
    int timesDry;
    House nextServed;

    House(int street, int cistern, int floor, int useAsTold, boolean ball) {
      this.street = street;
      this.cistern = cistern;
      this.floor = floor;
      this.useAsTold = useAsTold;
      this.ball = ball;
    }

    int roomInCistern() {
      return cistern - water;
    }

    int takeFrom(int left, Tally tally) {
      int offered = Math.min(HOUSE_INTAKE, left);
      int kept = Math.min(offered, roomInCistern());
      water += kept;
      if (ball) return kept;
      tally.wasted += offered - kept;
      return offered;
    }

    void use(int amount) {
      if (water < amount) {
        water = 0;
        timesDry++;
      } else {
        water -= amount;
      }
    }
  }

  /** A row of numbers; its length is below 0 while it is missing. */
  private static final class Row {
    final int[] numbers = new int[MOST_PLACES];
    int length = -1;

    boolean isMissing() {
      return length < 0;
    }

    void forget() {
      length = -1;
    }

    void makeAnew(int n) {
      Arrays.fill(numbers, 0);
      length = n;
    }

    boolean hasPlaces(int from, int n) {
      return from >= 0 && n >= 0 && n <= length - from;
    }
  }

  private static final class Turn {
    final int street;
    final int cock;
    final int firstHour;
    final int hoursLong;

    Turn(int street, int cock, int firstHour, int hoursLong) {
      this.street = street;
      this.cock = cock;
      this.firstHour = firstHour;
      this.hoursLong = hoursLong;
    }

    int hoursUntil(Turn other) {
      return Math.floorMod(other.firstHour - firstHour, HOURS_OF_WEEK);
    }

    boolean sharesHourWith(Turn other) {
      return hoursUntil(other) < hoursLong || other.hoursUntil(this) < other.hoursLong;
    }
  }

  private static final class Law {
    final int forHouse;
    final int forFloor;
    final int forTen;
    final int day;

    Law(int forHouse, int forFloor, int forTen, int day) {
      this.forHouse = forHouse;
      this.forFloor = forFloor;
      this.forTen = forTen;
      this.day = day;
    }

    int rateFor(House it) {
      return forHouse + forFloor * it.floor + forTen * (it.cistern / 10);
    }
  }

  /** Sets of streets, as bits, for each hour of the week: kept, since every hour that passes asks. */
  private static final class Week {
    private final int[] let = new int[HOURS_OF_WEEK];
    private final int[] open = new int[HOURS_OF_WEEK];

    int letStreets(int hour) {
      return let[Math.floorMod(hour, HOURS_OF_WEEK)];
    }

    int openStreets(int hour) {
      return open[Math.floorMod(hour, HOURS_OF_WEEK)];
    }

    int hoursOpen(int street) {
      int hours = 0;
      for (int h = 0; h < HOURS_OF_WEEK; h++) {
        hours += open[h] >> street & 1;
      }
      return hours;
    }

    void add(Turn told, ArrayList<Street> streets) {
      for (int i = 0; i < told.hoursLong; i++) {
        int h = Math.floorMod(told.firstHour + i, HOURS_OF_WEEK);
        let[h] |= 1 << told.street;
        open[h] = openOf(let[h], streets);
      }
    }

    /** One pass is enough: what is ahead of a street has a lesser number. */
    private static int openOf(int let, ArrayList<Street> streets) {
      int open = 0;
      for (int s = 0; s < streets.size(); s++) {
        int ahead = streets.get(s).ahead;
        boolean reached = ahead == ENGINE || hasStreet(open, ahead);
        if (reached && hasStreet(let, s)) open |= 1 << s;
      }
      return open;
    }
  }

  private static final class Tally {
    int leaked;
    int drawn;
    int wasted;
    int spilled;
    int tunsTook;
    int hoursWorked;
  }

  /** BEST IRON; its rows stand at sets as bits, and are used again by every search. */
  private static final class IronSearch {
    private final int[] costs = new int[1 << MOST_STREETS];
    private final int[] worths = new int[1 << MOST_STREETS];

    void tell(int street, int cost, int worth) {
      costs[1 << street] = cost;
      worths[1 << street] = worth;
    }

    int worthOf(int set) {
      return worths[set];
    }

    /** Lesser sets come first, so that a later one must be better to be taken. */
    int bestSet(int streets, int sum) {
      int best = 0;
      for (int set = 1; set < 1 << streets; set++) {
        int lowest = set & -set;
        if (set != lowest) {
          costs[set] = costs[set - lowest] + costs[lowest];
          worths[set] = worths[set - lowest] + worths[lowest];
        }
        if (costs[set] <= sum && isBetter(set, best)) best = set;
      }
      return best;
    }

    private boolean isBetter(int set, int than) {
      if (worths[set] != worths[than]) return worths[set] > worths[than];
      return Integer.bitCount(set) < Integer.bitCount(than);
    }
  }

  /** BEST DAYS; streets stand here by their order in the set. */
  private static final class DaySearch {
    private final int[] needs = new int[MOST_DAY_STREETS];
    private final int[] trialDays = new int[MOST_DAY_STREETS];
    private final int[] bestDays = new int[MOST_DAY_STREETS];
    private final int[] loads = new int[DAYS_OF_WEEK];
    private int told;
    private int sum;
    private int bestGreatest;
    int bestLack;

    void begin(int sumOfDay) {
      told = 0;
      sum = sumOfDay;
    }

    void tell(int need) {
      if (told >= MOST_DAY_STREETS) return;
      needs[told] = need;
      told++;
    }

    int bestDay(int place) {
      return place >= 0 && place < told ? bestDays[place] : NONE;
    }

    void search() {
      bestLack = ABOVE_ALL_NEEDS;
      bestGreatest = ABOVE_ALL_NEEDS;
      tryFrom(0, 0);
    }

    /**
     * Days differ by their numbers alone: of all empty ones the first is enough, and the first way
     * of the best ones is always among these.
     */
    private void tryFrom(int place, int daysUsed) {
      if (place >= told) {
        weigh();
        return;
      }
      for (int day = 0; day <= daysUsed && day < DAYS_OF_WEEK; day++) {
        trialDays[place] = day;
        loads[day] += needs[place];
        tryFrom(place + 1, Math.max(daysUsed, day + 1));
        loads[day] -= needs[place];
      }
    }

    private void weigh() {
      int lack = 0;
      int greatest = 0;
      for (int day = 0; day < DAYS_OF_WEEK; day++) {
        lack += Math.max(0, loads[day] - sum);
        greatest = Math.max(greatest, loads[day]);
      }
      if (lack > bestLack || lack == bestLack && greatest >= bestGreatest) return;
      bestLack = lack;
      bestGreatest = greatest;
      System.arraycopy(trialDays, 0, bestDays, 0, told);
    }
  }
}
