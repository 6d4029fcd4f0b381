/** Boundaries of plugs and tuns at streets' ends. */
final class EndBounds {
  private EndBounds() {}

  /** Street 0 with a tun of 50 and 40 in it, street 1 with a plug, street 2 with nothing. */
  private static void withWater(WoodenMains x) {
    Cities.star(x, 3);
    x.turn(0, 0, 0, 0, 1);
    x.coal(10);
    x.end(0, 50);
    x.end(1, 0);
    x.hours(1);
  }

  @Holds(promise = 0, words = "AT THE END of a STREET there is nothing, a PLUG, or a TUN")
  static void nothingAtFirst() {
    WoodenMains x = Cities.star(3);
    x.end(1, 0);
    x.end(2, 50);
    for (int s = 0; s < 3; s++) Bounds.due(x.streetOf(s, 0), s);
  }

  @Holds(promise = 0, words = "a TUN (a SIZE, 50 .. 2000; WATER in it 0 at first).")
  static void sizeFromLeastToGreatest() {
    WoodenMains x = Cities.star(2);
    Bounds.due(x.end(0, 50), 1);
    Bounds.due(x.end(1, 2000), 1);
    Bounds.due(x.streetOf(0, 6), 50);
    Bounds.due(x.streetOf(1, 6), 2000);
    Bounds.due(x.streetOf(0, 1), 0);
    Bounds.due(x.streetOf(1, 1), 0);
    Bounds.refused(-4, Cities::town, y -> y.end(0, 49));
    Bounds.refused(-6, Cities::town, y -> y.end(0, 2001));
    // A tun that comes where one with water was begins anew.
    WoodenMains z = Bounds.made(EndBounds::withWater);
    Bounds.due(z.clear(0), 40);
    Bounds.due(z.end(0, 50), 1);
    Bounds.due(z.streetOf(0, 1), 0);
  }

  @Holds(promise = 11, words = "AT THE END of a STREET: a PLUG (size 0), or a TUN of a SIZE: 1.")
  static void plugOrTun() {
    WoodenMains x = Cities.star(3);
    Bounds.due(x.end(0, 0), 1);
    Bounds.due(x.end(1, 50), 1);
    Bounds.due(x.end(2, 2000), 1);
    Bounds.due(x.streetOf(0, 0), 1);
    Bounds.due(x.streetOf(0, 5), 0);
    Bounds.due(x.streetOf(1, 0), 2);
    Bounds.due(x.streetOf(2, 0), 2);
    // What was cleared can be put there again, also another thing.
    x.clear(0);
    x.clear(1);
    Bounds.due(x.end(0, 50), 1);
    Bounds.due(x.end(1, 0), 1);
    Bounds.due(x.streetOf(0, 0), 2);
    Bounds.due(x.streetOf(1, 0), 1);
    Bounds.due(x.streetOf(1, 6), 0);
  }

  @Holds(promise = 11, words = "-1;")
  static void endOfNobody() {
    Bounds.refused(-1, Cities::town, x -> x.end(5, 0), x -> x.end(-1, 0), x -> x.end(Bounds.MOST, 0),
        x -> x.end(Bounds.LEAST, 0), x -> x.end(5, -1), x -> x.end(5, 49), x -> x.end(5, 2001));
  }

  @Holds(promise = 11, words = "-3 something is there;")
  static void endWhereSomethingIs() {
    Bounds.refused(-3, Cities::town, x -> x.end(1, 0), x -> x.end(1, 50), x -> x.end(2, 0), x -> x.end(3, 0),
        x -> x.end(3, 200), x -> x.end(1, -1), x -> x.end(2, 49), x -> x.end(3, 2001));
  }

  @Holds(promise = 11, words = "-4 a size below 0, of 1 .. 49;")
  static void endBelow() {
    Bounds.refused(-4, Cities::town, x -> x.end(0, -1), x -> x.end(0, Bounds.LEAST), x -> x.end(0, 1),
        x -> x.end(0, 2), x -> x.end(4, 48), x -> x.end(4, 49));
  }

  @Holds(promise = 11, words = "-6.")
  static void endAbove() {
    Bounds.refused(-6, Cities::town, x -> x.end(0, 2001), x -> x.end(4, Bounds.MOST));
  }

  @Holds(promise = 12, words = "What is AT THE END is taken away: WATER of a TUN (0 of a PLUG).")
  static void clearTellsWater() {
    WoodenMains x = Bounds.made(EndBounds::withWater);
    Bounds.due(x.clear(0), 40);
    Bounds.due(x.clear(1), 0);
    for (int s = 0; s < 2; s++) {
      for (int what : new int[] {0, 1, 5, 6}) Bounds.due(x.streetOf(s, what), 0);
    }
    WoodenMains empty = Cities.star(1);
    empty.end(0, 2000);
    Bounds.due(empty.clear(0), 0);
    // A tun that was taken away takes nothing any more.
    x.hours(168);
    Bounds.due(x.count(19), 40);
  }

  @Holds(promise = 12, words = "-1;")
  static void clearOfNobody() {
    Bounds.refused(-1, Cities::town, x -> x.clear(5), x -> x.clear(-1), x -> x.clear(Bounds.MOST),
        x -> x.clear(Bounds.LEAST));
  }

  @Holds(promise = 12, words = "-5.")
  static void clearOfNothing() {
    Bounds.refused(-5, Cities::town, x -> x.clear(0), x -> x.clear(4));
    Bounds.refused(-5, x -> {
      Cities.town(x);
      x.clear(3);
    }, x -> x.clear(3));
  }

  @Holds(promise = 13, words = "A PLUG is DRAWN, or not: 1; 0 if it was so.")
  static void drawOnAndOff() {
    WoodenMains x = Bounds.made(Cities::town);
    Bounds.due(x.draw(1, false), 0);
    Bounds.due(x.draw(1, true), 1);
    Bounds.due(x.draw(1, true), 0);
    Bounds.due(x.streetOf(1, 5), 1);
    Bounds.due(x.draw(2, true), 0);
    Bounds.due(x.draw(2, false), 1);
    Bounds.due(x.draw(2, false), 0);
    Bounds.due(x.streetOf(2, 5), 0);
    for (int n = 1; n <= 7; n++) Bounds.due(x.count(10 + n), 0);
    // A new plug is not drawn.
    x.clear(1);
    x.end(1, 0);
    Bounds.due(x.draw(1, false), 0);
  }

  @Holds(promise = 13, words = "-1;")
  static void drawOfNobody() {
    Bounds.refused(-1, Cities::town, x -> x.draw(5, true), x -> x.draw(-1, false), x -> x.draw(Bounds.MOST, true),
        x -> x.draw(Bounds.LEAST, false));
  }

  @Holds(promise = 13, words = "-5;")
  static void drawOfNothing() {
    Bounds.refused(-5, Cities::town, x -> x.draw(0, true), x -> x.draw(0, false), x -> x.draw(4, true));
    Bounds.refused(-5, x -> {
      Cities.town(x);
      x.clear(2);
      x.clear(3);
    }, x -> x.draw(2, false), x -> x.draw(3, true));
  }

  @Holds(promise = 13, words = "-2 a TUN.")
  static void drawOfTun() {
    Bounds.refused(-2, Cities::town, x -> x.draw(3, true), x -> x.draw(3, false));
  }

  @Holds(promise = 14, words = "n of a TUN's WATER is brewed: what is left.")
  static void brewFromNoneToAll() {
    WoodenMains x = Bounds.made(EndBounds::withWater);
    Bounds.due(x.brew(0, 0), 40);
    Bounds.due(x.brew(0, 1), 39);
    Bounds.due(x.streetOf(0, 1), 39);
    Bounds.due(x.streetOf(0, 6), 11);
    Bounds.due(x.brew(0, 39), 0);
    Bounds.due(x.brew(0, 0), 0);
    Bounds.due(x.streetOf(0, 6), 50);
  }

  @Holds(promise = 14, words = "-1;")
  static void brewOfNobody() {
    Bounds.refused(-1, Cities::town, x -> x.brew(5, 0), x -> x.brew(-1, 0), x -> x.brew(5, -1),
        x -> x.brew(Bounds.MOST, 0), x -> x.brew(Bounds.LEAST, 0));
  }

  @Holds(promise = 14, words = "-5;")
  static void brewOfNothing() {
    Bounds.refused(-5, Cities::town, x -> x.brew(0, 0), x -> x.brew(4, -1), x -> x.brew(4, 1));
  }

  @Holds(promise = 14, words = "-2 a PLUG;")
  static void brewOfPlug() {
    Bounds.refused(-2, Cities::town, x -> x.brew(1, 0), x -> x.brew(2, 0), x -> x.brew(1, -1), x -> x.brew(1, 1));
  }

  @Holds(promise = 14, words = "-4 n below 0;")
  static void brewBelow() {
    Bounds.refused(-4, Cities::town, x -> x.brew(3, -1), x -> x.brew(3, Bounds.LEAST));
  }

  @Holds(promise = 14, words = "-6 more than there is.")
  static void brewAbove() {
    Bounds.refused(-6, EndBounds::withWater, x -> x.brew(0, 41), x -> x.brew(0, Bounds.MOST));
    Bounds.due(Bounds.made(EndBounds::withWater).brew(0, 40), 0);
    Bounds.refused(-6, x -> {
      withWater(x);
      x.brew(0, 40);
    }, x -> x.brew(0, 1));
  }
}
