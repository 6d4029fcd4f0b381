/** Boundaries of houses and of the rows that lead them. */
final class HouseBounds {
  private HouseBounds() {}

  private static void full(WoodenMains x) {
    Cities.star(x, 2);
    for (int h = 0; h < 24; h++) x.house(h % 2, 10 + h, h % 10, h % 21, true);
  }

  private static WoodenMains oneHouse(int use) {
    WoodenMains x = Cities.star(1);
    x.house(0, 100, 0, use, true);
    return x;
  }

  @Holds(promise = 0, words = "HOUSES have numbers from 0 on (24 at most): a STREET,")
  static void numbersOfHouses() {
    WoodenMains x = Cities.star(2);
    for (int h = 0; h < 24; h++) Bounds.due(x.house(h % 2, 10, 0, 0, true), h);
    Bounds.due(x.count(2), 24);
    Bounds.due(x.houseOf(22, 3), 0);
    Bounds.due(x.houseOf(23, 3), 1);
    Bounds.refused(-6, HouseBounds::full, y -> y.house(0, 10, 0, 0, true));
  }

  @Holds(promise = 0, words = "a CISTERN (10 .. 500; WATER in it 0 at first)")
  static void cisternFromLeastToGreatest() {
    WoodenMains x = Cities.star(2);
    Bounds.due(x.house(0, 10, 0, 0, true), 0);
    Bounds.due(x.house(1, 500, 0, 0, true), 1);
    Bounds.due(x.streetOf(0, 6), 10);
    Bounds.due(x.streetOf(1, 6), 500);
    Bounds.due(x.houseOf(0, 0), 0);
    Bounds.due(x.houseOf(1, 0), 0);
    Bounds.refused(-4, Cities::town, y -> y.house(0, 9, 0, 0, true));
    Bounds.refused(-6, Cities::town, y -> y.house(0, 501, 0, 0, true));
  }

  @Holds(promise = 0, words = "a FLOOR (0 .. 9)")
  static void floorFromLeastToGreatest() {
    WoodenMains x = Cities.star(1);
    x.law(0, 1, 0, 0);
    Bounds.due(x.house(0, 10, 0, 0, true), 0);
    Bounds.due(x.house(0, 10, 9, 0, true), 1);
    Bounds.due(x.rate(0, 0), 0);
    Bounds.due(x.rate(1, 0), 9);
    Bounds.refused(-4, Cities::town, y -> y.house(0, 10, -1, 0, true));
    Bounds.refused(-6, Cities::town, y -> y.house(0, 10, 10, 0, true));
  }

  @Holds(promise = 0, words = "a BALL or none,")
  static void ballOrNone() {
    WoodenMains x = Cities.tight(1, 60);
    x.house(0, 10, 0, 0, true);
    x.house(0, 10, 0, 0, false);
    x.hours(1);
    Bounds.due(x.houseOf(0, 0), 10);
    Bounds.due(x.houseOf(1, 0), 10);
    Bounds.due(x.count(6), 20);
    Bounds.due(x.count(7), 60 - 10 - 30);
  }

  @Holds(promise = 0, words = "a USE (0 .. 20 an hour),")
  static void useFromLeastToGreatest() {
    Bounds.due(oneHouse(0).houseOf(0, 2), 0);
    Bounds.due(oneHouse(20).houseOf(0, 2), 20);
    Bounds.refused(-4, Cities::town, x -> x.house(0, 10, 0, -1, true));
    Bounds.refused(-6, Cities::town, x -> x.house(0, 10, 0, 21, true));
  }

  @Holds(promise = 0, words = "or it is led by a ROW: its USE is then the number at place (HOUR modulo 24)"
      + " modulo the row's length;")
  static void useGoesRoundTheRow() {
    WoodenMains x = oneHouse(20);
    x.house(0, 100, 0, 20, true);
    x.house(0, 100, 0, 20, true);
    x.row(0, 24);
    x.row(1, 5);
    x.row(2, 1);
    for (int place = 0; place < 24; place++) x.put(0, place, place % 19 + 1);
    for (int place = 0; place < 5; place++) x.put(1, place, place + 1);
    x.put(2, 0, 9);
    for (int house = 0; house < 3; house++) x.lead(house, house);
    for (int hour = 0; hour <= 50; hour++) {
      Bounds.due(x.houseOf(0, 2), hour % 24 % 19 + 1);
      Bounds.due(x.houseOf(1, 2), hour % 24 % 5 + 1);
      Bounds.due(x.houseOf(2, 2), 9);
      x.hours(1);
    }
    // Hour 23 is place 3 of five, hour 24 is place 0 and not 4.
    WoodenMains y = oneHouse(20);
    y.row(0, 5);
    for (int place = 0; place < 5; place++) y.put(0, place, place + 1);
    y.lead(0, 0);
    y.hours(23);
    Bounds.due(y.houseOf(0, 2), 4);
    y.hours(1);
    Bounds.due(y.houseOf(0, 2), 1);
  }

  @Holds(promise = 0, words = "if that is MISSING or empty, as told.")
  static void useWithoutNumbers() {
    WoodenMains x = oneHouse(13);
    x.lead(0, 2);
    Bounds.due(x.houseOf(0, 2), 13);
    x.row(2, 0);
    Bounds.due(x.houseOf(0, 2), 13);
    x.row(2, 1);
    Bounds.due(x.houseOf(0, 2), 0);
    x.put(2, 0, 20);
    Bounds.due(x.houseOf(0, 2), 20);
    x.lose(2);
    Bounds.due(x.houseOf(0, 2), 13);
    Bounds.due(x.lead(0, 2), 2);
  }

  @Holds(promise = 5, words = "A HOUSE: its number.")
  static void houseTellsItsNumber() {
    WoodenMains x = Bounds.made(Cities::town);
    Bounds.due(x.house(4, 10, 0, 0, true), 5);
    Bounds.due(x.house(0, 500, 9, 20, false), 6);
    Bounds.due(x.houseOf(5, 3), 4);
    Bounds.due(x.houseOf(6, 2), 20);
  }

  @Holds(promise = 5, words = "-1;")
  static void houseOfNoStreet() {
    Bounds.refused(-1, Cities::town, x -> x.house(5, 10, 0, 0, true), x -> x.house(-1, 10, 0, 0, true),
        x -> x.house(Bounds.MOST, 10, 0, 0, true), x -> x.house(Bounds.LEAST, 10, 0, 0, true),
        x -> x.house(5, 9, 0, 0, true), x -> x.house(5, 501, 0, 0, true), x -> x.house(5, 10, -1, 21, true));
    Bounds.refused(-1, HouseBounds::full, x -> x.house(2, 10, 0, 0, true));
  }

  @Holds(promise = 5, words = "-4;")
  static void houseBelow() {
    Bounds.refused(-4, Cities::town, x -> x.house(0, 9, 0, 0, true), x -> x.house(0, 10, -1, 0, true),
        x -> x.house(0, 10, 0, -1, true), x -> x.house(0, Bounds.LEAST, 0, 0, true),
        x -> x.house(0, 10, Bounds.LEAST, 0, true), x -> x.house(0, 10, 0, Bounds.LEAST, true));
    // Whichever number is below comes ahead of whichever is above.
    Bounds.refused(-4, Cities::town, x -> x.house(0, 9, 10, 0, true), x -> x.house(0, 9, 0, 21, true),
        x -> x.house(0, 501, -1, 0, true), x -> x.house(0, 10, -1, 21, true),
        x -> x.house(0, 501, 0, -1, true), x -> x.house(0, 10, 10, -1, true));
    Bounds.refused(-4, HouseBounds::full, x -> x.house(0, 9, 0, 0, true));
  }

  @Holds(promise = 5, words = "-6 (24, too).")
  static void houseAboveOrOneTooMany() {
    Bounds.refused(-6, Cities::town, x -> x.house(0, 501, 0, 0, true), x -> x.house(0, 10, 10, 0, true),
        x -> x.house(0, 10, 0, 21, true), x -> x.house(0, Bounds.MOST, 0, 0, true),
        x -> x.house(0, 10, Bounds.MOST, 0, true), x -> x.house(0, 10, 0, Bounds.MOST, true));
    Bounds.refused(-6, HouseBounds::full, x -> x.house(0, 10, 0, 0, true), x -> x.house(1, 500, 9, 20, false));
  }

  @Holds(promise = 32, words = "Of a HOUSE: 0 WATER, 1 how often it was DRY, 2 USE now, 3 its STREET.")
  static void whatOfHouse() {
    WoodenMains x = Cities.tight(2, 100);
    x.house(1, 100, 0, 12, true);
    int[] atFirst = {0, 0, 12, 1};
    for (int what = 0; what < 4; what++) Bounds.due(x.houseOf(0, what), atFirst[what]);
    x.hours(2);
    int[] withWater = {6, 0, 12, 1};
    for (int what = 0; what < 4; what++) Bounds.due(x.houseOf(0, what), withWater[what]);
    x.hours(2);
    int[] dry = {0, 2, 12, 1};
    for (int what = 0; what < 4; what++) Bounds.due(x.houseOf(0, what), dry[what]);
  }

  @Holds(promise = 32, words = "-1;")
  static void whatOfNobody() {
    Bounds.refused(-1, Cities::empty, x -> x.houseOf(0, 0));
    Bounds.refused(-1, Cities::town, x -> x.houseOf(5, 0), x -> x.houseOf(-1, 0), x -> x.houseOf(5, 4),
        x -> x.houseOf(Bounds.MOST, 0), x -> x.houseOf(Bounds.LEAST, 0));
  }

  @Holds(promise = 32, words = "-2.")
  static void anotherWhatOfHouse() {
    Bounds.refused(-2, Cities::town, x -> x.houseOf(4, 4), x -> x.houseOf(0, -1),
        x -> x.houseOf(0, Bounds.MOST), x -> x.houseOf(0, Bounds.LEAST));
  }
}
