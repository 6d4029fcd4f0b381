/** Boundaries of best days. */
final class DayBounds {
  private DayBounds() {}

  /** Streets whose needs are these (0, or 10 .. 500 each). */
  private static void needs(WoodenMains x, int... all) {
    Cities.star(x, all.length);
    for (int s = 0; s < all.length; s++) {
      if (all[s] > 0) x.house(s, all[s], 0, 0, true);
    }
  }

  private static WoodenMains needs(int... all) {
    return Bounds.made(x -> needs(x, all));
  }

  private static void seven(WoodenMains x) {
    needs(x, 100, 90, 80, 70, 60, 50, 40);
  }

  private static void dueDays(WoodenMains x, int set, int sum, int... days) {
    for (int s = 0; s < days.length; s++) Bounds.due(x.dayOf(set, sum, s), days[s]);
  }

  @Holds(promise = 0, words = "BEST DAYS of a set of STREETS (6 at most)")
  static void sixStreetsAtMost() {
    WoodenMains x = Bounds.made(DayBounds::seven);
    Bounds.due(x.days(63, 0), 450);
    Bounds.due(x.days(126, 0), 390);
    Bounds.due(x.days(64, 0), 40);
    Bounds.refused(-6, DayBounds::seven, y -> y.days(127, 0), y -> y.dayOf(127, 0, 0));
  }

  @Holds(promise = 0, words = "with a sum an each day (0 .. 100000):")
  static void sumOfDay() {
    WoodenMains x = Bounds.made(DayBounds::seven);
    Bounds.due(x.days(1, 0), 100);
    Bounds.due(x.days(1, 100000), 0);
    Bounds.refused(-4, DayBounds::seven, y -> y.days(1, -1), y -> y.dayOf(1, -1, 0));
    Bounds.refused(-6, DayBounds::seven, y -> y.days(1, 100001), y -> y.dayOf(1, 100001, 0));
  }

  @Holds(promise = 0,
      words = "NEED of a STREET: the ROOM that there is now in CISTERNS of its HOUSES and its TUN.")
  static void needFromNoneToMost() {
    WoodenMains x = Cities.tight(3, 1000);
    x.house(0, 10, 0, 0, true);
    x.house(0, 40, 0, 0, false);
    x.end(0, 50);
    x.end(1, 0);
    Bounds.due(x.days(1, 0), 10 + 40 + 50);
    Bounds.due(x.days(2, 0), 0);
    Bounds.due(x.days(4, 0), 0);
    x.hours(1);
    Bounds.due(x.days(1, 0), 0 + 10 + 10);
    x.hours(168);
    Bounds.due(x.days(1, 0), 0);
    x.brew(0, 50);
    Bounds.due(x.days(1, 0), 50);
    x.clear(0);
    Bounds.due(x.days(1, 0), 0);
    // All houses that there may be, with the greatest cisterns, and the greatest tun.
    WoodenMains most = Cities.star(1);
    for (int h = 0; h < 24; h++) most.house(0, 500, 0, 0, true);
    most.end(0, 2000);
    Bounds.due(most.days(1, 0), 24 * 500 + 2000);
    Bounds.due(most.days(1, 100000), 0);
  }

  @Holds(promise = 0, words = "One day of 0 .. 6 for each:")
  static void oneDayForEach() {
    dueDays(needs(10, 10, 10, 10, 10, 10), 63, 0, 0, 1, 2, 3, 4, 5);
    dueDays(needs(10), 1, 0, 0);
    dueDays(needs(0, 0, 0, 0, 0, 0), 63, 0, 0, 0, 0, 0, 0, 0);
  }

  @Holds(promise = 0, words = "LACK of a day: what NEEDS of its STREETS are above that sum.")
  static void lackAboveTheSum() {
    WoodenMains x = needs(100);
    Bounds.due(x.days(1, 98), 2);
    Bounds.due(x.days(1, 99), 1);
    Bounds.due(x.days(1, 100), 0);
    Bounds.due(x.days(1, 101), 0);
  }

  @Holds(promise = 0, words = "The way of the least LACK together,")
  static void leastLackTogether() {
    WoodenMains x = needs(150, 80, 70);
    Bounds.due(x.days(7, 100), 50);
    Bounds.due(x.days(7, 79), 71 + 1);
    Bounds.due(x.days(7, 149), 1);
    Bounds.due(x.days(7, 150), 0);
    Bounds.due(Bounds.made(DayBounds::seven).days(126, 40), 50 + 40 + 30 + 20 + 10);
    // Two that would fit beside one another in needs, but not in the sum, go to two days.
    dueDays(needs(40, 50, 100), 7, 89, 0, 1, 2);
    dueDays(needs(40, 50, 100), 7, 90, 0, 0, 1);
  }

  @Holds(promise = 0, words = "of these the one whose greatest NEEDS of a day are least,")
  static void leastGreatestNeeds() {
    dueDays(needs(100, 40, 50), 7, 100000, 0, 1, 1);
    dueDays(needs(60, 40, 100), 7, 100000, 0, 0, 1);
    dueDays(needs(60, 41, 100), 7, 100000, 0, 1, 2);
    dueDays(needs(50, 50), 3, 100000, 0, 1);
  }

  @Holds(promise = 0, words = "of these the first (days of STREETS by numbers).")
  static void firstByStreets() {
    dueDays(needs(30, 30, 30, 60, 60), 31, 100000, 0, 0, 1, 2, 3);
    dueDays(needs(60, 30, 30, 30), 15, 100000, 0, 1, 1, 2);
    // By numbers of those streets that are of the set.
    dueDays(needs(60, 30, 30, 30), 14, 100000, -9, 0, 1, 2);
    dueDays(needs(0, 50, 0, 50), 15, 100000, 0, 0, 0, 1);
  }

  @Holds(promise = 28, words = "BEST DAYS: LACK.")
  static void daysTellLack() {
    WoodenMains x = Bounds.made(DayBounds::seven);
    Bounds.due(x.days(63, 75), 25 + 15 + 5);
    Bounds.due(x.days(63, 99), 1);
    Bounds.due(x.days(63, 100), 0);
  }

  @Holds(promise = 28, words = "-1 other bits (none of them: 0);")
  static void daysOfOtherBits() {
    Bounds.due(new WoodenMains().days(0, 0), 0);
    Bounds.due(Bounds.made(Cities::town).days(0, 100000), 0);
    Bounds.due(Bounds.made(DayBounds::seven).days(64, 0), 40);
    Bounds.refused(-1, Cities::empty, x -> x.days(1, 0));
    Bounds.refused(-1, DayBounds::seven, x -> x.days(128, 0), x -> x.days(129, 0), x -> x.days(-1, 0),
        x -> x.days(Bounds.LEAST, 0), x -> x.days(Bounds.LEAST | 1, 0), x -> x.days(Bounds.MOST, 0));
    Bounds.refused(-1, Cities::fullTown, x -> x.days(1024, 0), x -> x.days(1 << 30, 0), x -> x.days(1 << 31, 0));
    Bounds.due(Bounds.made(Cities::fullTown).days(512, 100000), 0);
  }

  @Holds(promise = 28, words = "-6 more than 6, sum above 100000;")
  static void daysAbove() {
    Bounds.refused(-6, DayBounds::seven, x -> x.days(127, 0), x -> x.days(63, 100001), x -> x.days(0, 100001),
        x -> x.days(1, Bounds.MOST));
    Bounds.refused(-6, Cities::fullTown, x -> x.days(1023, 0), x -> x.days(127 << 3, 0));
  }

  @Holds(promise = 28, words = "-4 sum below 0.")
  static void daysBelow() {
    Bounds.refused(-4, DayBounds::seven, x -> x.days(63, -1), x -> x.days(1, Bounds.LEAST), x -> x.days(0, -1));
  }

  @Holds(promise = 28, words = "(In this order: -1, -6 the set, -4, -6.)")
  static void orderOfDays() {
    Bounds.refused(-1, DayBounds::seven, x -> x.days(255, -1), x -> x.days(128, -1), x -> x.days(128, 100001),
        x -> x.days(255, 0));
    Bounds.refused(-6, DayBounds::seven, x -> x.days(127, -1), x -> x.days(127, 100001));
    Bounds.refused(-4, DayBounds::seven, x -> x.days(63, -1));
    Bounds.refused(-6, DayBounds::seven, x -> x.days(63, 100001));
  }

  @Holds(promise = 29, words = "The day of a STREET in them; -9 it is not of the set.")
  static void dayOfAStreet() {
    WoodenMains x = Bounds.made(DayBounds::seven);
    dueDays(x, 63, 0, 0, 1, 2, 3, 4, 5, -9);
    dueDays(x, 64, 0, -9, -9, -9, -9, -9, -9, 0);
    dueDays(x, 0, 0, -9, -9, -9, -9, -9, -9, -9);
    // It is an answer, no refusal.
    for (int n = 1; n <= 7; n++) Bounds.due(x.count(10 + n), 0);
  }

  @Holds(promise = 29, words = "Refused as days(), then -1 the STREET.")
  static void dayOfRefused() {
    Bounds.refused(-1, DayBounds::seven, x -> x.dayOf(128, 0, 0), x -> x.dayOf(255, -1, 0),
        x -> x.dayOf(128, 100001, 9), x -> x.dayOf(-1, 0, 0));
    Bounds.refused(-6, DayBounds::seven, x -> x.dayOf(127, 0, 0), x -> x.dayOf(127, -1, 7), x -> x.dayOf(63, 100001, 7));
    Bounds.refused(-4, DayBounds::seven, x -> x.dayOf(63, -1, 0), x -> x.dayOf(63, -1, 7));
    Bounds.refused(-1, DayBounds::seven, x -> x.dayOf(63, 0, 7), x -> x.dayOf(63, 0, -1), x -> x.dayOf(0, 0, 7),
        x -> x.dayOf(63, 0, Bounds.MOST), x -> x.dayOf(63, 0, Bounds.LEAST), x -> x.dayOf(63, 0, 32));
  }
}
