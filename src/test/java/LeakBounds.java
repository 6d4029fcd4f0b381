/** Boundaries of readings, of spans, and of mains laid anew in iron. */
final class LeakBounds {
  private LeakBounds() {}

  private static void fullOfReadings(WoodenMains x) {
    Cities.star(x, 2);
    for (int n = 0; n < 40; n++) x.reading(n % 2, 100, 90, 20);
  }

  /** Readings of street 0, three numbers each. */
  private static WoodenMains read(int... all) {
    WoodenMains x = Cities.star(2);
    for (int i = 0; i + 2 < all.length; i += 3) {
      Bounds.due(x.reading(0, all[i], all[i + 1], all[i + 2]), i / 3 + 1);
    }
    return x;
  }

  private static void dueSpan(WoodenMains x, int least, int greatest) {
    Bounds.due(x.span(0, 0), least);
    Bounds.due(x.span(0, 1), greatest);
  }

  @Holds(promise = 0, words = "READINGS (40 at most) of a STREET:")
  static void fortyReadings() {
    WoodenMains x = Cities.star(2);
    for (int n = 1; n <= 40; n++) Bounds.due(x.reading(n % 2, 100, 90, 20), n);
    Bounds.due(x.count(9), 40);
    Bounds.refused(-6, LeakBounds::fullOfReadings, y -> y.reading(0, 100, 100, 0), y -> y.reading(1, 0, 0, 0));
  }

  @Holds(promise = 0, words = "IN, TAKEN (0 .. 5000 each), a DOUBT (0 .. 50):")
  static void numbersOfReadings() {
    dueSpan(read(0, 0, 0), 0, 0);
    dueSpan(read(5000, 0, 0), 5000, 5000);
    dueSpan(read(5000, 5000, 0), 0, 0);
    dueSpan(read(100, 0, 50), 50, 150);
    Bounds.refused(-4, Cities::town, x -> x.reading(0, -1, 0, 0), x -> x.reading(0, 0, -1, 0),
        x -> x.reading(0, 0, 0, -1));
    Bounds.refused(-6, Cities::town, x -> x.reading(0, 5001, 0, 0), x -> x.reading(0, 0, 5001, 0),
        x -> x.reading(0, 0, 0, 51));
  }

  @Holds(promise = 0, words = "what leaks there an hour is IN less TAKEN, by DOUBT more or less, not below 0.")
  static void leakIsNotBelowNothing() {
    dueSpan(read(10, 4, 5), 1, 11);
    dueSpan(read(10, 5, 5), 0, 10);
    dueSpan(read(10, 6, 5), 0, 9);
    dueSpan(read(10, 15, 5), 0, 0);
    // One more taken, and no leak of 0 or above fits.
    dueSpan(read(10, 16, 5), -9, -9);
    dueSpan(read(0, 5000, 50), -9, -9);
  }

  @Holds(promise = 0,
      words = "THE SPAN of a STREET: least and greatest of 0 .. 5000 that all of its READINGS let;")
  static void spanWithinItsEnds() {
    dueSpan(Cities.star(1), 0, 5000);
    dueSpan(read(5000, 49, 50), 4901, 5000);
    dueSpan(read(5000, 50, 50), 4900, 5000);
    dueSpan(read(5000, 51, 50), 4899, 4999);
    dueSpan(read(5000, 0, 50), 4950, 5000);
    dueSpan(read(100, 60, 10, 100, 55, 20), 30, 50);
    dueSpan(read(100, 60, 10, 100, 65, 10), 30, 45);
    // Readings of another street let nothing and forbid nothing.
    WoodenMains x = read(100, 60, 10);
    Bounds.due(x.reading(1, 0, 0, 0), 2);
    dueSpan(x, 30, 50);
    Bounds.due(x.span(1, 1), 0);
  }

  @Holds(promise = 0, words = "they QUARREL if there is none.")
  static void quarrelIfThereIsNone() {
    dueSpan(read(100, 60, 10, 100, 80, 10), 30, 30);
    dueSpan(read(100, 60, 10, 100, 81, 10), -9, -9);
    dueSpan(read(100, 60, 10, 100, 40, 10), 50, 50);
    dueSpan(read(100, 60, 10, 100, 39, 10), -9, -9);
    // Each two of three may agree only if all of them do; who quarrelled once goes on.
    dueSpan(read(100, 60, 10, 100, 81, 10, 100, 70, 50), -9, -9);
  }

  @Holds(promise = 0, words = "IRON within a sum (0 .. 10000):")
  static void sumOfIron() {
    WoodenMains x = worthy(10);
    Bounds.due(x.best(0), 0);
    Bounds.due(x.best(10000), 1);
    Bounds.refused(-4, Cities::town, y -> y.best(-1), y -> y.bestWorth(-1));
    Bounds.refused(-6, Cities::town, y -> y.best(10001), y -> y.bestWorth(10001));
  }

  /** Streets of these lengths, each open in hour 0 of the week. */
  private static WoodenMains worthy(int... lengths) {
    WoodenMains x = new WoodenMains();
    for (int s = 0; s < lengths.length; s++) {
      x.street(-1, lengths[s]);
      x.turn(s, 0, 0, 0, 1);
    }
    return x;
  }

  @Holds(promise = 0,
      words = "COST of a STREET with a MAIN of WOOD: LENGTH times the PRICE (1 .. 99; 10 at first);")
  static void costByLengthAndPrice() {
    WoodenMains x = worthy(10);
    Bounds.due(x.best(99), 0);
    Bounds.due(x.best(100), 1);
    Bounds.due(x.set(2, 1), 10);
    Bounds.due(x.best(9), 0);
    Bounds.due(x.best(10), 1);
    Bounds.due(x.set(2, 99), 1);
    Bounds.due(x.best(989), 0);
    Bounds.due(x.best(990), 1);
    WoodenMains two = worthy(50, 50);
    two.set(2, 99);
    Bounds.due(two.best(4949), 0);
    Bounds.due(two.best(4950), 1);
    Bounds.due(two.best(9899), 1);
    Bounds.due(two.best(9900), 3);
    Bounds.refused(-4, Cities::town, y -> y.set(2, 0));
    Bounds.refused(-6, Cities::town, y -> y.set(2, 100));
  }

  @Holds(promise = 0, words = "WORTH: its DRIP now times how many hours of the week it is OPEN.")
  static void worthFromNothingToMost() {
    WoodenMains x = Cities.line(2);
    Bounds.due(x.bestWorth(10000), 0);
    x.turn(1, 0, 0, 0, 6);
    Bounds.due(x.bestWorth(10000), 0);
    x.turn(0, 0, 0, 5, 2);
    Bounds.due(x.bestWorth(10000), 2 + 1);
    // An hour of two turns is one hour.
    x.turn(0, 1, 0, 5, 1);
    Bounds.due(x.bestWorth(10000), 2 + 1);
    // The drip is that of now.
    x.hours(671);
    Bounds.due(x.bestWorth(10000), 2 + 1);
    x.hours(1);
    Bounds.due(x.bestWorth(10000), 2 * (2 + 1));
    // Open all the week round, at the greatest drip.
    WoodenMains all = new WoodenMains();
    all.street(-1, 50);
    for (int t = 0; t < 28; t++) all.turn(0, 0, t * 6 / 24, t * 6 % 24, 6);
    Bounds.due(all.bestWorth(10000), 5 * 168);
    all.hours(5000);
    Bounds.due(all.bestWorth(10000), 40 * 168);
  }

  @Holds(promise = 0, words = "BEST IRON: the set of STREETS of WOOD whose COSTS together are no more,")
  static void costsTogetherAreNoMore() {
    WoodenMains x = worthy(20, 30, 40);
    Bounds.due(x.best(899), 6);
    Bounds.due(x.best(900), 7);
    Bounds.due(x.best(700), 6);
    Bounds.due(x.best(699), 5);
    Bounds.due(x.best(600), 5);
    Bounds.due(x.best(599), 3);
    Bounds.due(x.best(499), 4);
    Bounds.due(x.best(199), 0);
    // A main that is of iron isn't of the set.
    x.iron(2);
    Bounds.due(x.best(10000), 3);
    x.iron(0);
    x.iron(1);
    Bounds.due(x.best(10000), 0);
  }

  @Holds(promise = 0, words = "with the greatest WORTH together; of several the fewest, of these the least as bits.")
  static void fewestThenLeastAsBits() {
    Bounds.due(worthy(10, 10, 20).best(200), 4);
    Bounds.due(worthy(10, 10, 10).best(200), 3);
    Bounds.due(worthy(10, 10, 10).best(100), 1);
    Bounds.due(worthy(20, 10, 10).best(200), 1);
    // 11 drips as 10 does, and costs more: greater worth together is by 10 and 10 and 10.
    Bounds.due(worthy(11, 10, 10, 10).best(300), 14);
    Bounds.due(worthy(11, 10, 10, 10).best(310), 7);
    // What drips nothing, or is never open, is of no use: fewest leaves it out.
    Bounds.due(worthy(9, 10).best(10000), 2);
    WoodenMains x = worthy(10);
    x.street(-1, 10);
    Bounds.due(x.best(10000), 1);
  }

  @Holds(promise = 24, words = "A READING: how many there are.")
  static void readingTellsHowMany() {
    WoodenMains x = Bounds.made(Cities::town);
    Bounds.due(x.reading(4, 0, 0, 0), 3);
    Bounds.due(x.reading(4, 5000, 5000, 50), 4);
    Bounds.due(x.count(9), 4);
  }

  @Holds(promise = 24, words = "-1;")
  static void readingOfNobody() {
    Bounds.refused(-1, Cities::town, x -> x.reading(5, 0, 0, 0), x -> x.reading(-1, 0, 0, 0),
        x -> x.reading(Bounds.MOST, 0, 0, 0), x -> x.reading(Bounds.LEAST, 0, 0, 0),
        x -> x.reading(5, -1, 0, 0), x -> x.reading(5, 5001, 0, 0));
    Bounds.refused(-1, LeakBounds::fullOfReadings, x -> x.reading(2, 0, 0, 0));
  }

  @Holds(promise = 24, words = "-4;")
  static void readingBelow() {
    Bounds.refused(-4, Cities::town, x -> x.reading(0, -1, 0, 0), x -> x.reading(0, 0, -1, 0),
        x -> x.reading(0, 0, 0, -1), x -> x.reading(0, Bounds.LEAST, 0, 0), x -> x.reading(0, 0, Bounds.LEAST, 0),
        x -> x.reading(0, 0, 0, Bounds.LEAST));
    // Whichever number is below comes ahead of whichever is above.
    Bounds.refused(-4, Cities::town, x -> x.reading(0, -1, 5001, 0), x -> x.reading(0, -1, 0, 51),
        x -> x.reading(0, 5001, -1, 0), x -> x.reading(0, 0, -1, 51), x -> x.reading(0, 5001, 0, -1),
        x -> x.reading(0, 0, 5001, -1));
    Bounds.refused(-4, LeakBounds::fullOfReadings, x -> x.reading(0, -1, 0, 0));
  }

  @Holds(promise = 24, words = "-6 (40, too).")
  static void readingAboveOrOneTooMany() {
    Bounds.refused(-6, Cities::town, x -> x.reading(1, 5001, 0, 0), x -> x.reading(1, 0, 5001, 0),
        x -> x.reading(1, 0, 0, 51), x -> x.reading(1, Bounds.MOST, 0, 0), x -> x.reading(1, 0, Bounds.MOST, 0),
        x -> x.reading(1, 0, 0, Bounds.MOST));
    Bounds.refused(-6, LeakBounds::fullOfReadings, x -> x.reading(0, 0, 5000, 0), x -> x.reading(1, 10, 0, 0));
  }

  @Holds(promise = 25, words = "THE SPAN: what 0 the least, 1 the greatest;")
  static void spanLeastAndGreatest() {
    WoodenMains x = Bounds.made(Cities::town);
    Bounds.due(x.span(0, 0), 15);
    Bounds.due(x.span(0, 1), 25);
    Bounds.due(x.span(4, 0), 0);
    Bounds.due(x.span(4, 1), 5000);
  }

  @Holds(promise = 25, words = "-9: READINGS QUARREL.")
  static void spanOfQuarrel() {
    WoodenMains x = read(100, 60, 10, 100, 81, 10);
    Bounds.due(x.span(0, 0), -9);
    Bounds.due(x.span(0, 1), -9);
    Bounds.due(x.span(1, 0), 0);
    Bounds.due(x.span(1, 1), 5000);
    // It is an answer, no refusal.
    for (int n = 1; n <= 7; n++) Bounds.due(x.count(10 + n), 0);
  }

  @Holds(promise = 25, words = "-1;")
  static void spanOfNobody() {
    Bounds.refused(-1, Cities::town, x -> x.span(5, 0), x -> x.span(-1, 1), x -> x.span(Bounds.MOST, 0),
        x -> x.span(Bounds.LEAST, 0), x -> x.span(5, 2));
  }

  @Holds(promise = 25, words = "-2.")
  static void spanOfAnotherWhat() {
    Bounds.refused(-2, Cities::town, x -> x.span(0, 2), x -> x.span(0, -1), x -> x.span(4, Bounds.MOST),
        x -> x.span(4, Bounds.LEAST));
    Bounds.refused(-2, x -> {
      Cities.star(x, 1);
      x.reading(0, 0, 1, 0);
    }, x -> x.span(0, 2));
  }

  @Holds(promise = 26, words = "BEST IRON: the set.")
  static void setFromNoneToAll() {
    Bounds.due(new WoodenMains().best(10000), 0);
    Bounds.due(new WoodenMains().best(0), 0);
    WoodenMains ten = worthy(10, 10, 10, 10, 10, 10, 10, 10, 10, 10);
    Bounds.due(ten.best(1000), 1023);
    Bounds.due(ten.best(999), 511);
    Bounds.due(ten.best(99), 0);
    // The greatest of all sets is all that can be had also at the greatest sum.
    Bounds.due(ten.best(10000), 1023);
  }

  @Holds(promise = 26, words = "-4;")
  static void bestBelow() {
    Bounds.refused(-4, Cities::town, x -> x.best(-1), x -> x.best(Bounds.LEAST));
  }

  @Holds(promise = 26, words = "-6.")
  static void bestAbove() {
    Bounds.refused(-6, Cities::town, x -> x.best(10001), x -> x.best(Bounds.MOST));
  }

  @Holds(promise = 27, words = "Its WORTH together.")
  static void worthTogether() {
    Bounds.due(new WoodenMains().bestWorth(10000), 0);
    WoodenMains x = worthy(20, 30, 40);
    Bounds.due(x.bestWorth(199), 0);
    Bounds.due(x.bestWorth(200), 2);
    Bounds.due(x.bestWorth(499), 4);
    Bounds.due(x.bestWorth(500), 5);
    Bounds.due(x.bestWorth(899), 7);
    Bounds.due(x.bestWorth(900), 9);
    Bounds.due(x.bestWorth(10000), 9);
    x.iron(2);
    Bounds.due(x.bestWorth(10000), 5);
  }

  @Holds(promise = 27, words = "-4;")
  static void bestWorthBelow() {
    Bounds.refused(-4, Cities::town, x -> x.bestWorth(-1), x -> x.bestWorth(Bounds.LEAST));
  }

  @Holds(promise = 27, words = "-6.")
  static void bestWorthAbove() {
    Bounds.refused(-6, Cities::town, x -> x.bestWorth(10001), x -> x.bestWorth(Bounds.MOST));
  }
}
