/** Boundaries of streets and their mains. */
final class StreetBounds {
  private StreetBounds() {}

  private static void ten(WoodenMains x) {
    Cities.line(x, 10);
  }

  @Holds(promise = 0, words = "STREETS have numbers from 0 on (10 at most)")
  static void numbersOfStreets() {
    WoodenMains x = new WoodenMains();
    for (int s = 0; s < 10; s++) Bounds.due(x.street(s - 1, 10), s);
    Bounds.due(x.count(1), 10);
    Bounds.refused(-6, StreetBounds::ten, y -> y.street(-1, 1), y -> y.street(9, 50));
  }

  @Holds(promise = 0, words = "AHEAD (the ENGINE, or a STREET that is there already)")
  static void aheadIsThereAlready() {
    Bounds.refused(-1, Cities::empty, x -> x.street(0, 10));
    WoodenMains x = new WoodenMains();
    Bounds.due(x.street(-1, 10), 0);
    Bounds.due(x.street(1, 10), -1);
    Bounds.due(x.street(0, 10), 1);
    Bounds.due(x.street(0, 10), 2);
    Bounds.due(x.street(-1, 10), 3);
    Bounds.due(x.streetOf(2, 4), 0);
    Bounds.due(x.streetOf(3, 4), -9);
  }

  @Holds(promise = 0, words = "a LENGTH (1 .. 50)")
  static void lengthOfStreet() {
    WoodenMains x = new WoodenMains();
    Bounds.due(x.street(-1, 1), 0);
    Bounds.due(x.street(-1, 50), 1);
    Bounds.due(x.streetOf(0, 2), 0);
    Bounds.due(x.streetOf(1, 2), 5);
    Bounds.refused(-4, Cities::town, y -> y.street(-1, 0));
    Bounds.refused(-6, Cities::town, y -> y.street(-1, 51));
  }

  @Holds(promise = 0,
      words = "a MAIN, laid in some WEEK (that in which it is told, at first; the WEEK is HOUR by 168)")
  static void weekInWhichItIsTold() {
    WoodenMains lastHourOfWeek = new WoodenMains();
    lastHourOfWeek.hours(167);
    lastHourOfWeek.street(-1, 10);
    lastHourOfWeek.hours(1);
    Bounds.due(lastHourOfWeek.iron(0), 1);
    WoodenMains firstHourOfWeek = new WoodenMains();
    firstHourOfWeek.hours(168);
    firstHourOfWeek.street(-1, 10);
    firstHourOfWeek.street(-1, 10);
    firstHourOfWeek.hours(167);
    Bounds.due(firstHourOfWeek.iron(0), 0);
    firstHourOfWeek.hours(1);
    Bounds.due(firstHourOfWeek.iron(1), 1);
  }

  @Holds(promise = 0, words = "of WOOD, at first, or IRON")
  static void woodAtFirst() {
    WoodenMains x = Cities.star(2);
    Bounds.due(x.streetOf(0, 3), 0);
    x.iron(0);
    Bounds.due(x.streetOf(0, 3), 1);
    Bounds.due(x.streetOf(1, 3), 0);
  }

  @Holds(promise = 0, words = "DRIP of a MAIN an hour: of IRON 0")
  static void ironNeverDrips() {
    WoodenMains x = new WoodenMains();
    x.street(-1, 50);
    x.turn(0, 0, 0, 0, 6);
    x.coal(1000);
    x.iron(0);
    Bounds.due(x.streetOf(0, 2), 0);
    x.hours(5000);
    Bounds.due(x.streetOf(0, 2), 0);
    Bounds.due(x.count(4), 0);
  }

  @Holds(promise = 0, words = "of WOOD LENGTH times (1 plus how many WEEKS it lies over 4, cut) by 10, cut")
  static void dripIsCutTwice() {
    WoodenMains x = new WoodenMains();
    int[] lengths = {1, 4, 9, 10, 19, 20, 50};
    for (int length : lengths) x.street(-1, length);
    dueDrips(x, 0, 0, 0, 1, 1, 2, 5);
    x.hours(671);
    dueDrips(x, 0, 0, 0, 1, 1, 2, 5);
    x.hours(1);
    dueDrips(x, 0, 0, 1, 2, 3, 4, 10);
    x.hours(671);
    dueDrips(x, 0, 0, 1, 2, 3, 4, 10);
    x.hours(1);
    dueDrips(x, 0, 1, 2, 3, 5, 6, 15);
    x.hours(5000 - 1344);
    dueDrips(x, 0, 3, 7, 8, 15, 16, 40);
  }

  private static void dueDrips(WoodenMains x, int... drips) {
    for (int s = 0; s < drips.length; s++) Bounds.due(x.streetOf(s, 2), drips[s]);
  }

  @Holds(promise = 0, words = "TURNCOCKS: WAY between two STREETS: how many STEPS of AHEAD lie between them"
      + " (the ENGINE is a place, too).")
  static void wayFromNoneToLongest() {
    // Two lines of five behind the engine: 0 .. 4 and 5 .. 9.
    WoodenMains x = new WoodenMains();
    for (int s = 0; s < 10; s++) x.street(s == 5 ? -1 : s - 1, 10);
    Bounds.due(x.way(4, 4), 0);
    Bounds.due(x.way(3, 4), 1);
    Bounds.due(x.way(4, 3), 1);
    Bounds.due(x.way(-1, 0), 1);
    Bounds.due(x.way(-1, 4), 5);
    Bounds.due(x.way(9, -1), 5);
    Bounds.due(x.way(0, 5), 2);
    Bounds.due(x.way(4, 9), 10);
    Bounds.due(x.way(9, 4), 10);
    Bounds.due(Cities.line(10).way(-1, 9), 10);
    Bounds.due(Cities.line(10).way(9, -1), 10);
  }

  @Holds(promise = 2, words = "A STREET, AHEAD of it another one, or the ENGINE (-1): its number.")
  static void streetBehindEngineOrStreet() {
    WoodenMains x = new WoodenMains();
    Bounds.due(x.street(-1, 10), 0);
    Bounds.due(x.street(0, 10), 1);
    Bounds.due(x.street(1, 10), 2);
    Bounds.due(x.streetOf(0, 4), -9);
    Bounds.due(x.streetOf(1, 4), 0);
    Bounds.due(x.streetOf(2, 4), 1);
  }

  @Holds(promise = 2, words = "-1;")
  static void streetBehindNobody() {
    Bounds.refused(-1, Cities::town, x -> x.street(5, 10), x -> x.street(-2, 10), x -> x.street(Bounds.MOST, 10),
        x -> x.street(Bounds.LEAST, 10), x -> x.street(5, 0), x -> x.street(-2, 51));
    Bounds.refused(-1, StreetBounds::ten, x -> x.street(10, 10), x -> x.street(10, 0));
  }

  @Holds(promise = 2, words = "-4;")
  static void streetTooShort() {
    Bounds.refused(-4, Cities::town, x -> x.street(4, 0), x -> x.street(-1, -1), x -> x.street(0, Bounds.LEAST));
    Bounds.refused(-4, StreetBounds::ten, x -> x.street(0, 0));
  }

  @Holds(promise = 2, words = "-6 (10, too).")
  static void streetTooLongOrOneTooMany() {
    Bounds.refused(-6, Cities::town, x -> x.street(4, 51), x -> x.street(-1, Bounds.MOST));
    Bounds.refused(-6, StreetBounds::ten, x -> x.street(0, 1), x -> x.street(-1, 50), x -> x.street(0, 51));
    Bounds.due(Cities.line(9).street(8, 50), 9);
  }

  @Holds(promise = 19, words = "A MAIN is laid anew of IRON: how many WEEKS it lay.")
  static void ironTellsWeeks() {
    Bounds.due(Cities.star(1).iron(0), 0);
    WoodenMains x = Cities.star(3);
    x.hours(167);
    Bounds.due(x.iron(0), 0);
    x.hours(1);
    Bounds.due(x.iron(1), 1);
    x.hours(4832);
    Bounds.due(x.iron(2), 29);
    Bounds.due(x.streetOf(2, 2), 0);
    Bounds.due(x.streetOf(2, 3), 1);
  }

  @Holds(promise = 19, words = "-1;")
  static void ironOfNobody() {
    Bounds.refused(-1, Cities::town, x -> x.iron(5), x -> x.iron(-1), x -> x.iron(Bounds.MOST),
        x -> x.iron(Bounds.LEAST));
    Bounds.refused(-1, Cities::empty, x -> x.iron(0));
  }

  @Holds(promise = 19, words = "-3 it is.")
  static void ironTwice() {
    Bounds.refused(-3, Cities::town, x -> x.iron(4));
    Bounds.refused(-3, x -> {
      Cities.star(x, 1);
      x.iron(0);
      x.hours(700);
    }, x -> x.iron(0));
  }

  @Holds(promise = 20, words = "A MAIN of WOOD is laid anew in WOOD: how many WEEKS it lay.")
  static void renewTellsWeeks() {
    WoodenMains x = Cities.star(2);
    Bounds.due(x.renew(0), 0);
    x.hours(671);
    Bounds.due(x.renew(0), 3);
    Bounds.due(x.renew(0), 0);
    x.hours(1);
    Bounds.due(x.streetOf(0, 2), 1);
    Bounds.due(x.streetOf(1, 2), 2);
    Bounds.due(x.renew(0), 1);
    Bounds.due(x.streetOf(0, 3), 0);
    x.hours(5000 - 672);
    Bounds.due(x.renew(1), 29);
    Bounds.due(x.streetOf(1, 2), 1);
    Bounds.due(x.renew(0), 25);
  }

  @Holds(promise = 20, words = "-1;")
  static void renewOfNobody() {
    Bounds.refused(-1, Cities::town, x -> x.renew(5), x -> x.renew(-1), x -> x.renew(Bounds.MOST),
        x -> x.renew(Bounds.LEAST));
  }

  @Holds(promise = 20, words = "-3 it is of IRON.")
  static void renewOfIron() {
    Bounds.refused(-3, Cities::town, x -> x.renew(4));
  }

  @Holds(promise = 22, words = "WAY between two places (-1: the ENGINE).")
  static void wayBetweenPlaces() {
    Bounds.due(new WoodenMains().way(-1, -1), 0);
    WoodenMains x = Bounds.made(Cities::town);
    Bounds.due(x.way(-1, 2), 3);
    Bounds.due(x.way(2, 4), 5);
    Bounds.due(x.way(4, 4), 0);
  }

  @Holds(promise = 22, words = "-1 others.")
  static void wayOfOthers() {
    Bounds.refused(-1, Cities::empty, x -> x.way(0, -1), x -> x.way(-1, 0));
    Bounds.refused(-1, Cities::town, x -> x.way(5, 0), x -> x.way(0, 5), x -> x.way(-2, 0), x -> x.way(0, -2),
        x -> x.way(Bounds.MOST, 0), x -> x.way(0, Bounds.LEAST), x -> x.way(5, 5), x -> x.way(-2, -2));
  }

  @Holds(promise = 33, words = "Of a STREET: 0 what is AT THE END (0 nothing, 1 a PLUG, 2 a TUN),")
  static void whatIsAtTheEnd() {
    WoodenMains x = Bounds.made(Cities::town);
    int[] ends = {0, 1, 1, 2, 0};
    for (int s = 0; s < ends.length; s++) Bounds.due(x.streetOf(s, 0), ends[s]);
    x.clear(3);
    Bounds.due(x.streetOf(3, 0), 0);
  }

  @Holds(promise = 33, words = "1 WATER of a TUN (0),")
  static void waterOfTunOrNone() {
    WoodenMains x = Cities.tight(3, 1000);
    x.end(0, 50);
    x.end(1, 0);
    x.draw(1, true);
    for (int s = 0; s < 3; s++) Bounds.due(x.streetOf(s, 1), 0);
    x.hours(1);
    Bounds.due(x.streetOf(0, 1), 40);
    Bounds.due(x.streetOf(1, 1), 0);
    Bounds.due(x.streetOf(2, 1), 0);
    x.clear(0);
    Bounds.due(x.streetOf(0, 1), 0);
  }

  @Holds(promise = 33, words = "2 DRIP now, 3 1 if of IRON,")
  static void dripNowAndIron() {
    WoodenMains x = Bounds.made(Cities::town);
    x.hours(672 - 31);
    Bounds.due(x.streetOf(3, 2), 5);
    x.hours(1);
    Bounds.due(x.streetOf(3, 2), 10);
    Bounds.due(x.streetOf(3, 3), 0);
    Bounds.due(x.streetOf(4, 2), 0);
    Bounds.due(x.streetOf(4, 3), 1);
  }

  @Holds(promise = 33, words = "4 the STREET AHEAD (-9: the ENGINE),")
  static void streetAhead() {
    WoodenMains x = Bounds.made(Cities::town);
    int[] ahead = {-9, 0, 1, -9, 3};
    for (int s = 0; s < ahead.length; s++) Bounds.due(x.streetOf(s, 4), ahead[s]);
    for (int n = 1; n <= 7; n++) Bounds.due(x.count(10 + n), 0);
  }

  @Holds(promise = 33, words = "5 1 if a PLUG is DRAWN,")
  static void plugDrawn() {
    WoodenMains x = Bounds.made(Cities::town);
    int[] drawn = {0, 0, 1, 0, 0};
    for (int s = 0; s < drawn.length; s++) Bounds.due(x.streetOf(s, 5), drawn[s]);
    x.draw(2, false);
    Bounds.due(x.streetOf(2, 5), 0);
    x.draw(2, true);
    x.clear(2);
    Bounds.due(x.streetOf(2, 5), 0);
    x.end(2, 0);
    Bounds.due(x.streetOf(2, 5), 0);
  }

  @Holds(promise = 33, words = "6 NEED.")
  static void needFromNoneToAll() {
    WoodenMains x = Cities.tight(2, 1000);
    Bounds.due(x.streetOf(0, 6), 0);
    x.end(0, 0);
    Bounds.due(x.streetOf(0, 6), 0);
    x.house(0, 10, 0, 0, true);
    x.end(1, 50);
    Bounds.due(x.streetOf(0, 6), 10);
    Bounds.due(x.streetOf(1, 6), 50);
    x.hours(1);
    Bounds.due(x.streetOf(0, 6), 0);
    Bounds.due(x.streetOf(1, 6), 10);
  }

  @Holds(promise = 33, words = "-1;")
  static void streetOfNobody() {
    Bounds.refused(-1, Cities::empty, x -> x.streetOf(0, 0), x -> x.streetOf(-1, 0));
    Bounds.refused(-1, Cities::town, x -> x.streetOf(5, 0), x -> x.streetOf(-1, 0), x -> x.streetOf(5, 7),
        x -> x.streetOf(Bounds.MOST, 0), x -> x.streetOf(Bounds.LEAST, 0));
  }

  @Holds(promise = 33, words = "-2.")
  static void streetOfAnotherWhat() {
    Bounds.refused(-2, Cities::town, x -> x.streetOf(4, 7), x -> x.streetOf(0, -1),
        x -> x.streetOf(0, Bounds.MOST), x -> x.streetOf(0, Bounds.LEAST));
  }
}
