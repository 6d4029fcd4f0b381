/** Boundaries of the whole city: hours, the engine's numbers, coal, counts, and refusals as such. */
final class CityBounds {
  private CityBounds() {}

  @Holds(promise = 0, words = "HOURS go on from 0 (5000 at most)")
  static void hoursFromFirstToLast() {
    WoodenMains x = new WoodenMains();
    Bounds.due(x.count(0), 0);
    Bounds.due(x.hours(5000), 5000);
    Bounds.due(x.count(0), 5000);
    Bounds.refused(-6, y -> y.hours(5000), y -> y.hours(1));
  }

  @Holds(promise = 0, words = "DAY is HOUR by 24")
  static void dayBeginsWithItsFirstHour() {
    WoodenMains x = new WoodenMains();
    x.hours(23);
    Bounds.due(x.law(1, 0, 0, 0), 0);
    x.hours(1);
    Bounds.due(x.law(1, 0, 0, 0), -4);
    Bounds.due(x.law(1, 0, 0, 1), 1);
    x.hours(23);
    Bounds.due(x.law(1, 0, 0, 1), 2);
    x.hours(1);
    Bounds.due(x.law(1, 0, 0, 1), -4);
  }

  @Holds(promise = 0, words = "the HOUR OF THE WEEK is HOUR modulo 168.")
  static void hourOfWeekGoesRound() {
    WoodenMains x = new WoodenMains();
    x.street(-1, 10);
    x.end(0, 0);
    x.turn(0, 0, 0, 0, 1);
    x.turn(0, 0, 6, 22, 1);
    Bounds.due(x.fire(0, 2), 0);
    x.hours(1);
    Bounds.due(x.fire(0, 2), 1);
    x.hours(165);
    Bounds.due(x.fire(0, 2), 0);
    x.hours(1);
    Bounds.due(x.fire(0, 2), 1);
    x.hours(1);
    Bounds.due(x.fire(0, 2), 0);
    x.hours(1);
    Bounds.due(x.fire(0, 2), 1);
    x.hours(168 * 27 + 167);
    Bounds.due(x.fire(0, 2), 0);
  }

  @Holds(promise = 0,
      words = "An object is used for at most 512 calls after it has been made; what later calls answer is free.")
  static void lastPromisedCall() {
    WoodenMains x = new WoodenMains();
    for (int call = 1; call < 512; call++) Bounds.due(x.lose(4), -1);
    Bounds.due(x.count(11), 511);
  }

  @Holds(promise = 0,
      words = "REFUSALS (the call answers the number, the first that fits in the order in which it tells them;")
  static void firstRefusalThatFits() {
    Bounds.refused(-1, Cities::town, x -> x.put(4, -1, -1), x -> x.turn(5, 3, -1, 24, 0),
        x -> x.reading(5, -1, 5001, 51), x -> x.end(5, -1), x -> x.let(5, -1, 2), x -> x.fire(5, 3));
    Bounds.refused(-2, Cities::town, x -> x.set(3, -1), x -> x.brew(1, -1), x -> x.brew(2, 1));
    Bounds.refused(-3, Cities::town, x -> x.end(1, -1), x -> x.end(3, 2001));
    Bounds.refused(-4, Cities::town, x -> x.house(0, 9, 10, 21, true), x -> x.law(-1, 100, 100, 301));
    Bounds.refused(-5, Cities::town, x -> x.put(3, -1, -1), x -> x.brew(0, -1), x -> x.fire(0, 3));
    Bounds.refused(-6, Cities::town, x -> x.let(0, 168, 2));
    Bounds.refused(-7, Cities::town, x -> x.put(0, 3, -1), x -> x.put(0, -1, 21));
  }

  @Holds(promise = 0, words = "nothing changes but how many there were)")
  static void refusalsAreCountedAndNothingElse() {
    WoodenMains x = Bounds.made(Cities::town);
    for (int n = 1; n <= 7; n++) Bounds.due(x.count(10 + n), 0);
    Bounds.due(x.iron(5), -1);
    Bounds.due(x.set(3, 1), -2);
    Bounds.due(x.iron(4), -3);
    Bounds.due(x.hours(0), -4);
    Bounds.due(x.clear(0), -5);
    Bounds.due(x.best(10001), -6);
    Bounds.due(x.put(2, 0, 1), -7);
    for (int n = 1; n <= 7; n++) Bounds.due(x.count(10 + n), 1);
    Bounds.due(x.put(2, 0, 1), -7);
    Bounds.due(x.put(2, 0, 1), -7);
    Bounds.due(x.count(17), 3);
    Bounds.due(x.count(16), 1);
  }

  @Holds(promise = 0, words = "-1 NOBODY: no such STREET, HOUSE, ROW, TURNCOCK, TURN.")
  static void nobody() {
    Bounds.refused(-1, Cities::town, x -> x.streetOf(5, 0), x -> x.houseOf(5, 0), x -> x.lose(4),
        x -> x.clashes(3));
    WoodenMains x = Bounds.made(Cities::town);
    Bounds.due(x.streetOf(4, 0), 0);
    Bounds.due(x.houseOf(4, 3), 4);
    Bounds.due(x.lose(3), 0);
    Bounds.due(x.clashes(2) >= 0 ? 1 : 0, 1);
  }

  @Holds(promise = 0, words = "-2 OTHER: what; another thing AT THE END.")
  static void other() {
    Bounds.refused(-2, Cities::town, x -> x.streetOf(0, 7), x -> x.draw(3, true), x -> x.brew(1, 0));
  }

  @Holds(promise = 0, words = "-3 STATE: it is not as told.")
  static void state() {
    Bounds.refused(-3, Cities::town, x -> x.iron(4), x -> x.renew(4), x -> x.end(1, 0), x -> x.end(3, 50));
  }

  @Holds(promise = 0, words = "-4 BELOW: a number below the least.")
  static void below() {
    Bounds.refused(-4, Cities::town, x -> x.street(0, 0), x -> x.set(2, 0), x -> x.coal(-1));
  }

  @Holds(promise = 0, words = "-5 MISSING: a ROW that is; nothing AT THE END.")
  static void missing() {
    Bounds.refused(-5, Cities::town, x -> x.put(3, 0, 0), x -> x.draw(0, true), x -> x.clear(4));
  }

  @Holds(promise = 0, words = "-6 ROOM: a number above the greatest, no room.")
  static void room() {
    Bounds.refused(-6, Cities::town, x -> x.street(0, 51), x -> x.set(2, 100), x -> x.row(0, 25));
    Bounds.refused(-6, Cities::fullTown, x -> x.street(0, 1), x -> x.house(0, 10, 0, 0, true),
        x -> x.turn(0, 0, 0, 0, 1), x -> x.reading(0, 0, 0, 0), x -> x.law(0, 0, 0, 300));
  }

  @Holds(promise = 0, words = "-7 BEYOND: places that a row doesn't have.")
  static void beyond() {
    Bounds.refused(-7, Cities::town, x -> x.put(0, 3, 0), x -> x.put(0, -1, 0), x -> x.put(2, 0, 0),
        x -> x.copy(0, 0, 1, 22, 3));
  }

  @Holds(promise = 0, words = "Of answers that may be below 0 otherwise than -9 as told REFUSALS are"
      + " 2000000000 less them (-1 as 2000000001).")
  static void refusalsAside() {
    Bounds.refusedAside(-1, Cities::town, x -> x.lead(5, 0), x -> x.stand(3, 0));
    WoodenMains x = Bounds.made(Cities::town);
    Bounds.due(x.lead(4, -1), -1);
    Bounds.due(x.stand(2, -1), -1);
    Bounds.due(x.count(11), 0);
    Bounds.due(x.lead(5, -1), 2000000001);
    Bounds.due(x.stand(2, 5), 2000000001);
    Bounds.due(x.count(11), 2);
    // Calls whose only other answer below 0 is -9 tell their refusals plainly.
    Bounds.due(x.streetOf(5, 4), -1);
    Bounds.due(x.span(5, 0), -1);
    Bounds.due(x.dayOf(32, 0, 0), -1);
  }

  @Holds(promise = 1, words = "Nothing; HOUR 0.")
  static void newObjectHasNothing() {
    WoodenMains x = new WoodenMains();
    for (int what = 0; what <= 19; what++) Bounds.due(x.count(what), 0);
    Bounds.due(x.set(0, 0), 100);
    Bounds.due(x.set(1, 0), 1);
    Bounds.due(x.set(2, 1), 10);
    for (int cock = 0; cock < 3; cock++) Bounds.due(x.stand(cock, -1), -1);
    for (int cock = 0; cock < 3; cock++) Bounds.due(x.clashes(cock), 0);
    for (int row = 0; row < 4; row++) Bounds.due(x.lose(row), 0);
    Bounds.due(x.way(-1, -1), 0);
    Bounds.due(x.best(10000), 0);
    Bounds.due(x.bestWorth(10000), 0);
    Bounds.due(x.days(0, 0), 0);
    Bounds.refused(-1, Cities::empty, y -> y.streetOf(0, 0), y -> y.houseOf(0, 0), y -> y.days(1, 0));
  }

  @Holds(promise = 3, words = "Of the ENGINE what 0 OUTPUT, 1 BURN, 2 PRICE becomes v: what it was.")
  static void setFromLeastToGreatest() {
    WoodenMains x = new WoodenMains();
    Bounds.due(x.set(0, 5000), 100);
    Bounds.due(x.set(0, 0), 5000);
    Bounds.due(x.set(0, 7), 0);
    Bounds.due(x.set(1, 50), 1);
    Bounds.due(x.set(1, 0), 50);
    Bounds.due(x.set(1, 8), 0);
    Bounds.due(x.set(2, 99), 10);
    Bounds.due(x.set(2, 1), 99);
    Bounds.due(x.set(2, 9), 1);
    Bounds.due(x.set(0, 1), 7);
    Bounds.due(x.set(1, 1), 8);
    Bounds.due(x.set(2, 1), 9);
  }

  @Holds(promise = 3, words = "-2")
  static void setOfAnotherWhat() {
    Bounds.refused(-2, Cities::town, x -> x.set(3, 5), x -> x.set(-1, 5), x -> x.set(Bounds.MOST, 5),
        x -> x.set(Bounds.LEAST, 5), x -> x.set(3, -1), x -> x.set(-1, 5001));
  }

  @Holds(promise = 3, words = "-4")
  static void setBelow() {
    Bounds.refused(-4, Cities::town, x -> x.set(0, -1), x -> x.set(1, -1), x -> x.set(2, 0),
        x -> x.set(0, Bounds.LEAST), x -> x.set(1, Bounds.LEAST), x -> x.set(2, Bounds.LEAST));
  }

  @Holds(promise = 3, words = "-6")
  static void setAbove() {
    Bounds.refused(-6, Cities::town, x -> x.set(0, 5001), x -> x.set(1, 51), x -> x.set(2, 100),
        x -> x.set(0, Bounds.MOST), x -> x.set(1, Bounds.MOST), x -> x.set(2, Bounds.MOST));
  }

  @Holds(promise = 4, words = "COAL comes: how much there is.")
  static void coalFromNothingToAll() {
    WoodenMains x = new WoodenMains();
    Bounds.due(x.coal(0), 0);
    Bounds.due(x.coal(5), 5);
    Bounds.due(x.coal(99995), 100000);
    Bounds.due(x.coal(0), 100000);
    Bounds.due(new WoodenMains().coal(100000), 100000);
  }

  @Holds(promise = 4, words = "-4 below 0")
  static void coalBelow() {
    Bounds.refused(-4, Cities::town, x -> x.coal(-1), x -> x.coal(Bounds.LEAST));
    Bounds.refused(-4, x -> x.coal(100000), x -> x.coal(-1));
  }

  @Holds(promise = 4, words = "-6 above 100000")
  static void coalAbove() {
    Bounds.refused(-6, Cities::empty, x -> x.coal(100001), x -> x.coal(Bounds.MOST));
    Bounds.refused(-6, x -> x.coal(99999), x -> x.coal(2), x -> x.coal(Bounds.MOST));
    Bounds.refused(-6, x -> x.coal(100000), x -> x.coal(1), x -> x.coal(Bounds.MOST));
    // What is burnt leaves room.
    WoodenMains x = Cities.tight(1, 0);
    Bounds.due(x.coal(99000), 100000);
    x.hours(1);
    Bounds.due(x.coal(2), -6);
    Bounds.due(x.coal(1), 100000);
  }

  @Holds(promise = 18, words = "n hours pass: HOUR.")
  static void hoursPass() {
    WoodenMains x = new WoodenMains();
    Bounds.due(x.hours(1), 1);
    Bounds.due(x.hours(24), 25);
    Bounds.due(x.hours(4974), 4999);
    Bounds.due(x.hours(1), 5000);
  }

  @Holds(promise = 18, words = "-4 below 1")
  static void hoursBelow() {
    Bounds.refused(-4, Cities::town, x -> x.hours(0), x -> x.hours(-1), x -> x.hours(Bounds.LEAST));
    Bounds.refused(-4, x -> x.hours(5000), x -> x.hours(0));
  }

  @Holds(promise = 18, words = "-6 above 5000.")
  static void hoursAbove() {
    Bounds.refused(-6, Cities::empty, x -> x.hours(5001), x -> x.hours(Bounds.MOST));
    Bounds.refused(-6, Cities::town, x -> x.hours(4971), x -> x.hours(Bounds.MOST));
    Bounds.due(Bounds.made(Cities::town).hours(4970), 5000);
    Bounds.refused(-6, x -> x.hours(4999), x -> x.hours(2));
    Bounds.refused(-6, x -> x.hours(5000), x -> x.hours(1));
  }

  @Holds(promise = 34, words = "0 HOUR, 1 STREETS, 2 HOUSES, 3 COAL, 4 LEAKED, 5 DRAWN, 6 WASTED, 7 SPILLED,"
      + " 8 TURNS, 9 READINGS, 10 LAWS,")
  static void countsUpToLaws() {
    WoodenMains x = Cities.tight(2, 500);
    x.street(-1, 30);
    x.turn(2, 0, 0, 0, 1);
    x.house(0, 10, 0, 0, false);
    x.end(0, 0);
    x.draw(0, true);
    x.end(1, 50);
    x.law(0, 0, 0, 0);
    x.law(0, 0, 0, 0);
    for (int n = 0; n < 4; n++) x.reading(0, 0, 0, 0);
    x.hours(5);
    int[] all = {5, 3, 1, 999, 3, 60, 20, 500 - 3 - 60 - 40 - 30, 3, 4, 2};
    for (int what = 0; what < all.length; what++) Bounds.due(x.count(what), all[what]);
  }

  @Holds(promise = 34, words = "11 .. 17 REFUSALS -1 .. -7,")
  static void countsOfRefusals() {
    WoodenMains x = Bounds.made(Cities::town);
    for (int i = 0; i < 1; i++) x.lose(4);
    for (int i = 0; i < 2; i++) x.set(3, 0);
    for (int i = 0; i < 3; i++) x.iron(4);
    for (int i = 0; i < 4; i++) x.hours(0);
    for (int i = 0; i < 5; i++) x.clear(0);
    for (int i = 0; i < 6; i++) x.best(10001);
    for (int i = 0; i < 7; i++) x.put(2, 0, 0);
    for (int n = 1; n <= 7; n++) Bounds.due(x.count(10 + n), n);
    // Their neighbours are the laws and the hours in which the engine worked.
    Bounds.due(x.count(10), 2);
    Bounds.due(x.count(18), 7);
  }

  @Holds(promise = 34, words = "18 hours in which the ENGINE worked, 19 what TUNS took.")
  static void countsBehindRefusals() {
    WoodenMains x = Cities.tight(2, 70);
    x.end(0, 50);
    x.end(1, 60);
    Bounds.due(x.count(18), 0);
    Bounds.due(x.count(19), 0);
    x.hours(1);
    Bounds.due(x.count(18), 1);
    Bounds.due(x.count(19), 70);
    x.clear(0);
    x.brew(1, 30);
    Bounds.due(x.count(19), 70);
    x.hours(168);
    Bounds.due(x.count(18), 2);
    Bounds.due(x.count(19), 110);
  }

  @Holds(promise = 34, words = "-9 for another what.")
  static void countOfAnotherWhat() {
    WoodenMains x = Bounds.made(Cities::town);
    Bounds.due(x.count(-1), -9);
    Bounds.due(x.count(20), -9);
    Bounds.due(x.count(Bounds.LEAST), -9);
    Bounds.due(x.count(Bounds.MOST), -9);
    // It is an answer, no refusal.
    for (int n = 1; n <= 7; n++) Bounds.due(x.count(10 + n), 0);
  }
}
