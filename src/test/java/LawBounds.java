/** Boundaries of laws and rates. */
final class LawBounds {
  private LawBounds() {}

  private static void full(WoodenMains x) {
    Cities.star(x, 1);
    x.house(0, 105, 3, 0, true);
    x.hours(24);
    for (int n = 0; n < 20; n++) x.law(n, n, n, 1 + n);
  }

  /** The rate by one law, from day 0 on, of a house with this floor and cistern. */
  private static int rateBy(int house, int floor, int tens, int itsFloor, int itsCistern) {
    WoodenMains x = Cities.star(1);
    x.house(0, itsCistern, itsFloor, 0, true);
    Bounds.due(x.law(house, floor, tens, 0), 0);
    return x.rate(0, 0);
  }

  @Holds(promise = 0, words = "RATES: LAWS have numbers from 0 on (20 at most):")
  static void numbersOfLaws() {
    WoodenMains x = new WoodenMains();
    for (int n = 0; n < 20; n++) Bounds.due(x.law(0, 0, 0, 0), n);
    Bounds.due(x.count(10), 20);
    Bounds.refused(-6, LawBounds::full, y -> y.law(0, 0, 0, 1));
  }

  @Holds(promise = 0, words = "a sum for each HOUSE (0 .. 999),")
  static void sumForHouse() {
    Bounds.due(rateBy(0, 0, 0, 9, 500), 0);
    Bounds.due(rateBy(999, 0, 0, 9, 500), 999);
    Bounds.refused(-4, Cities::town, x -> x.law(-1, 0, 0, 1));
    Bounds.refused(-6, Cities::town, x -> x.law(1000, 0, 0, 1));
  }

  @Holds(promise = 0, words = "one for each FLOOR (0 .. 99),")
  static void sumForFloor() {
    Bounds.due(rateBy(0, 99, 0, 0, 500), 0);
    Bounds.due(rateBy(0, 99, 0, 1, 500), 99);
    Bounds.due(rateBy(0, 99, 0, 9, 500), 891);
    Bounds.refused(-4, Cities::town, x -> x.law(0, -1, 0, 1));
    Bounds.refused(-6, Cities::town, x -> x.law(0, 100, 0, 1));
  }

  @Holds(promise = 0, words = "one for each 10 of the CISTERN (0 .. 99),")
  static void sumForTen() {
    Bounds.due(rateBy(0, 0, 99, 9, 10), 99);
    Bounds.due(rateBy(0, 0, 99, 9, 500), 4950);
    Bounds.refused(-4, Cities::town, x -> x.law(0, 0, -1, 1));
    Bounds.refused(-6, Cities::town, x -> x.law(0, 0, 100, 1));
  }

  @Holds(promise = 0, words = "from a DAY (now or later).")
  static void fromNowOn() {
    // The town's day is 1.
    WoodenMains x = Bounds.made(Cities::town);
    Bounds.due(x.law(1, 0, 0, 1), 2);
    Bounds.due(x.law(2, 0, 0, 300), 3);
    Bounds.refused(-4, Cities::town, y -> y.law(1, 0, 0, 0));
    // The last day that comes is 208.
    WoodenMains last = new WoodenMains();
    last.hours(5000);
    Bounds.due(last.law(0, 0, 0, 207), -4);
    Bounds.due(last.law(0, 0, 0, 208), 0);
    Bounds.due(last.law(0, 0, 0, 300), 1);
  }

  @Holds(promise = 0, words = "In force on a DAY is the one with the latest DAY not behind it,")
  static void latestDayNotBehind() {
    WoodenMains x = Cities.star(1);
    x.house(0, 10, 0, 0, true);
    x.law(7, 0, 0, 20);
    x.law(5, 0, 0, 10);
    int[] days = {0, 9, 10, 19, 20, 21, 300};
    int[] rates = {0, 0, 5, 5, 7, 7, 7};
    for (int i = 0; i < days.length; i++) Bounds.due(x.rate(0, days[i]), rates[i]);
    x.law(9, 0, 0, 300);
    Bounds.due(x.rate(0, 299), 7);
    Bounds.due(x.rate(0, 300), 9);
    // What day it is now doesn't matter.
    x.hours(500);
    for (int i = 0; i < days.length - 1; i++) Bounds.due(x.rate(0, days[i]), rates[i]);
  }

  @Holds(promise = 0, words = "of several the greatest number.")
  static void greatestNumberOfSeveral() {
    WoodenMains x = Cities.star(1);
    x.house(0, 10, 0, 0, true);
    for (int n = 0; n < 20; n++) {
      x.law(100 - n, 0, 0, n == 5 ? 3 : 4);
      int inForce = n == 5 ? 4 : n;
      Bounds.due(x.rate(0, 4), 100 - inForce);
    }
    Bounds.due(x.rate(0, 3), 95);
    Bounds.due(x.rate(0, 2), 0);
  }

  @Holds(promise = 0, words = "RATE of a HOUSE on a DAY: by these (CISTERN by 10, cut);")
  static void cisternIsCut() {
    Bounds.due(rateBy(0, 0, 1, 0, 10), 1);
    Bounds.due(rateBy(0, 0, 1, 0, 19), 1);
    Bounds.due(rateBy(0, 0, 1, 0, 20), 2);
    Bounds.due(rateBy(0, 0, 1, 0, 499), 49);
    Bounds.due(rateBy(0, 0, 1, 0, 500), 50);
    Bounds.due(rateBy(0, 0, 7, 0, 19), 7);
    Bounds.due(rateBy(999, 99, 99, 9, 500), 999 + 891 + 4950);
    Bounds.due(rateBy(0, 0, 0, 9, 500), 0);
  }

  @Holds(promise = 0, words = "0 without a LAW.")
  static void rateWithoutLaw() {
    WoodenMains x = Cities.star(1);
    x.house(0, 500, 9, 0, true);
    Bounds.due(x.rate(0, 0), 0);
    Bounds.due(x.rate(0, 300), 0);
    x.law(999, 99, 99, 1);
    Bounds.due(x.rate(0, 0), 0);
  }

  @Holds(promise = 30, words = "A LAW: its number.")
  static void lawTellsItsNumber() {
    WoodenMains x = Bounds.made(Cities::town);
    Bounds.due(x.law(0, 0, 0, 1), 2);
    Bounds.due(x.law(999, 99, 99, 300), 3);
    Bounds.due(x.count(10), 4);
  }

  @Holds(promise = 30, words = "-4 (a DAY ahead of now, too);")
  static void lawBelow() {
    Bounds.refused(-4, Cities::town, x -> x.law(-1, 0, 0, 1), x -> x.law(0, -1, 0, 1), x -> x.law(0, 0, -1, 1),
        x -> x.law(0, 0, 0, 0), x -> x.law(0, 0, 0, -1), x -> x.law(Bounds.LEAST, 0, 0, 1),
        x -> x.law(0, Bounds.LEAST, 0, 1), x -> x.law(0, 0, Bounds.LEAST, 1), x -> x.law(0, 0, 0, Bounds.LEAST));
    // Whichever number is below comes ahead of whichever is above.
    Bounds.refused(-4, Cities::town, x -> x.law(-1, 100, 0, 1), x -> x.law(-1, 0, 100, 1),
        x -> x.law(-1, 0, 0, 301), x -> x.law(1000, -1, 0, 1), x -> x.law(1000, 0, -1, 1),
        x -> x.law(1000, 0, 0, 0), x -> x.law(0, 100, 0, 0), x -> x.law(0, 0, 100, 0), x -> x.law(0, 0, -1, 301));
    Bounds.refused(-4, Cities::empty, x -> x.law(0, 0, 0, -1));
    Bounds.refused(-4, LawBounds::full, x -> x.law(0, 0, 0, 0), x -> x.law(-1, 0, 0, 1));
  }

  @Holds(promise = 30, words = "-6 (DAY above 300, 20, too).")
  static void lawAboveOrOneTooMany() {
    Bounds.refused(-6, Cities::town, x -> x.law(1000, 0, 0, 1), x -> x.law(0, 100, 0, 1), x -> x.law(0, 0, 100, 1),
        x -> x.law(0, 0, 0, 301), x -> x.law(Bounds.MOST, 0, 0, 1), x -> x.law(0, Bounds.MOST, 0, 1),
        x -> x.law(0, 0, Bounds.MOST, 1), x -> x.law(0, 0, 0, Bounds.MOST));
    Bounds.refused(-6, LawBounds::full, x -> x.law(0, 0, 0, 1), x -> x.law(999, 99, 99, 300));
  }

  @Holds(promise = 31, words = "RATE of a HOUSE on a DAY (0 .. 300).")
  static void rateFromFirstToLastDay() {
    WoodenMains x = Bounds.made(Cities::town);
    // House 0: cistern 105, floor 3; laws from day 0 and from day 5. The town's day is 1.
    Bounds.due(x.rate(0, 0), 10 + 2 * 3 + 10);
    Bounds.due(x.rate(0, 4), 10 + 2 * 3 + 10);
    Bounds.due(x.rate(0, 5), 20 + 3 * 3 + 4 * 10);
    Bounds.due(x.rate(0, 300), 20 + 3 * 3 + 4 * 10);
    Bounds.due(x.rate(4, 300), 20 + 3 * 2 + 4 * 50);
  }

  @Holds(promise = 31, words = "-1;")
  static void rateOfNobody() {
    Bounds.refused(-1, Cities::empty, x -> x.rate(0, 0));
    Bounds.refused(-1, Cities::town, x -> x.rate(5, 0), x -> x.rate(-1, 0), x -> x.rate(Bounds.MOST, 0),
        x -> x.rate(Bounds.LEAST, 0), x -> x.rate(5, -1), x -> x.rate(5, 301));
  }

  @Holds(promise = 31, words = "-4;")
  static void rateBelow() {
    Bounds.refused(-4, Cities::town, x -> x.rate(0, -1), x -> x.rate(4, Bounds.LEAST));
  }

  @Holds(promise = 31, words = "-6.")
  static void rateAbove() {
    Bounds.refused(-6, Cities::town, x -> x.rate(0, 301), x -> x.rate(4, Bounds.MOST));
  }
}
