/** Boundaries of rows, and of houses that are led by them. */
final class RowBounds {
  private RowBounds() {}

  /** What a row has, told by putting 0 in its places. */
  private static void dueRow(WoodenMains x, int row, int... numbers) {
    for (int place = 0; place < numbers.length; place++) Bounds.due(x.put(row, place, 0), numbers[place]);
    Bounds.due(x.put(row, numbers.length, 0), -7);
  }

  @Holds(promise = 0, words = "ROWS 0 to 3 are MISSING (at first)")
  static void rowsMissingAtFirst() {
    WoodenMains x = new WoodenMains();
    for (int row = 0; row < 4; row++) Bounds.due(x.put(row, 0, 0), -5);
    for (int row = 0; row < 4; row++) Bounds.due(x.lose(row), 0);
    Bounds.refused(-1, Cities::empty, y -> y.put(4, 0, 0), y -> y.put(-1, 0, 0), y -> y.lose(4), y -> y.lose(-1));
  }

  @Holds(promise = 0, words = "or have 0 .. 24 numbers")
  static void rowsFromEmptyToFull() {
    WoodenMains x = new WoodenMains();
    Bounds.due(x.row(0, 0), 0);
    dueRow(x, 0);
    Bounds.due(x.row(0, 24), 24);
    dueRow(x, 0, new int[24]);
    Bounds.refused(-4, Cities::town, y -> y.row(0, -1));
    Bounds.refused(-6, Cities::town, y -> y.row(0, 25));
  }

  @Holds(promise = 0, words = "numbers (0 .. 20).")
  static void numbersOfRows() {
    WoodenMains x = new WoodenMains();
    x.row(0, 1);
    Bounds.due(x.put(0, 0, 20), 0);
    Bounds.due(x.put(0, 0, 0), 20);
    Bounds.due(x.put(0, 0, 1), 0);
    Bounds.refused(-4, Cities::town, y -> y.put(0, 0, -1));
    Bounds.refused(-6, Cities::town, y -> y.put(0, 0, 21));
  }

  @Holds(promise = 6, words = "ROW r becomes a row of n numbers 0: n.")
  static void rowBecomesNew() {
    WoodenMains x = Bounds.made(Cities::town);
    Bounds.due(x.row(0, 3), 3);
    dueRow(x, 0, 0, 0, 0);
    Bounds.due(x.row(1, 2), 2);
    dueRow(x, 1, 0, 0);
    Bounds.due(x.row(1, 24), 24);
    dueRow(x, 1, new int[24]);
    Bounds.due(x.row(3, 0), 0);
    Bounds.due(x.lose(3), 1);
  }

  @Holds(promise = 6, words = "-1;")
  static void rowOfNobody() {
    Bounds.refused(-1, Cities::town, x -> x.row(4, 1), x -> x.row(-1, 1), x -> x.row(Bounds.MOST, 1),
        x -> x.row(Bounds.LEAST, 1), x -> x.row(4, -1), x -> x.row(-1, 25));
  }

  @Holds(promise = 6, words = "-4;")
  static void rowBelow() {
    Bounds.refused(-4, Cities::town, x -> x.row(0, -1), x -> x.row(2, -1), x -> x.row(3, -1),
        x -> x.row(1, Bounds.LEAST));
  }

  @Holds(promise = 6, words = "-6.")
  static void rowAbove() {
    Bounds.refused(-6, Cities::town, x -> x.row(0, 25), x -> x.row(1, 25), x -> x.row(3, 25),
        x -> x.row(2, Bounds.MOST));
  }

  @Holds(promise = 7, words = "ROW r is MISSING: 1; 0 if it was.")
  static void loseOnce() {
    WoodenMains x = Bounds.made(Cities::town);
    int[] first = {1, 1, 1, 0};
    for (int row = 0; row < 4; row++) Bounds.due(x.lose(row), first[row]);
    for (int row = 0; row < 4; row++) Bounds.due(x.lose(row), 0);
    for (int n = 1; n <= 7; n++) Bounds.due(x.count(10 + n), 0);
    for (int row = 0; row < 4; row++) Bounds.due(x.put(row, 0, 0), -5);
    // What was lost doesn't come again with a new row.
    x.row(0, 3);
    dueRow(x, 0, 0, 0, 0);
  }

  @Holds(promise = 7, words = "-1.")
  static void loseOfNobody() {
    Bounds.refused(-1, Cities::town, x -> x.lose(4), x -> x.lose(-1), x -> x.lose(Bounds.MOST),
        x -> x.lose(Bounds.LEAST));
  }

  @Holds(promise = 8, words = "The number at a place: what it was.")
  static void putAtFirstAndLastPlace() {
    WoodenMains x = Bounds.made(Cities::town);
    Bounds.due(x.put(0, 0, 20), 5);
    Bounds.due(x.put(0, 2, 1), 7);
    Bounds.due(x.put(1, 23, 3), 4);
    dueRow(x, 0, 20, 6, 1);
  }

  @Holds(promise = 8, words = "-1;")
  static void putOfNobody() {
    Bounds.refused(-1, Cities::town, x -> x.put(4, 0, 0), x -> x.put(-1, 0, 0), x -> x.put(Bounds.MOST, 0, 0),
        x -> x.put(Bounds.LEAST, 0, 0), x -> x.put(4, -1, 0), x -> x.put(4, 0, -1), x -> x.put(4, 0, 21));
  }

  @Holds(promise = 8, words = "-5;")
  static void putOfMissing() {
    Bounds.refused(-5, Cities::town, x -> x.put(3, 0, 0), x -> x.put(3, -1, 0), x -> x.put(3, 24, 0),
        x -> x.put(3, 0, -1), x -> x.put(3, 0, 21));
  }

  @Holds(promise = 8, words = "-7;")
  static void putBeyond() {
    Bounds.refused(-7, Cities::town, x -> x.put(0, 3, 0), x -> x.put(0, -1, 0), x -> x.put(1, 24, 0),
        x -> x.put(2, 0, 0), x -> x.put(0, Bounds.MOST, 0), x -> x.put(0, Bounds.LEAST, 0),
        x -> x.put(0, 3, -1), x -> x.put(0, 3, 21), x -> x.put(0, -1, -1));
  }

  @Holds(promise = 8, words = "-4;")
  static void putBelow() {
    Bounds.refused(-4, Cities::town, x -> x.put(0, 2, -1), x -> x.put(1, 23, Bounds.LEAST));
  }

  @Holds(promise = 8, words = "-6.")
  static void putAbove() {
    Bounds.refused(-6, Cities::town, x -> x.put(0, 2, 21), x -> x.put(1, 23, Bounds.MOST));
  }

  @Holds(promise = 9,
      words = "n numbers of ROW r, from place i on, come to ROW s, from place j on (as they all were): n.")
  static void copyAsTheyAllWere() {
    WoodenMains forward = rowOfFive();
    Bounds.due(forward.copy(0, 0, 0, 1, 4), 4);
    dueRow(forward, 0, 1, 1, 2, 3, 4);
    WoodenMains backward = rowOfFive();
    Bounds.due(backward.copy(0, 1, 0, 0, 4), 4);
    dueRow(backward, 0, 2, 3, 4, 5, 5);
    WoodenMains onItself = rowOfFive();
    Bounds.due(onItself.copy(0, 0, 0, 0, 5), 5);
    dueRow(onItself, 0, 1, 2, 3, 4, 5);
    WoodenMains other = rowOfFive();
    other.row(3, 7);
    Bounds.due(other.copy(0, 0, 3, 2, 5), 5);
    dueRow(other, 3, 0, 0, 1, 2, 3, 4, 5);
    dueRow(other, 0, 1, 2, 3, 4, 5);
  }

  private static WoodenMains rowOfFive() {
    WoodenMains x = new WoodenMains();
    x.row(0, 5);
    for (int place = 0; place < 5; place++) x.put(0, place, place + 1);
    return x;
  }

  @Holds(promise = 9, words = "-1;")
  static void copyOfNobody() {
    Bounds.refused(-1, Cities::town, x -> x.copy(4, 0, 0, 0, 1), x -> x.copy(-1, 0, 0, 0, 1),
        x -> x.copy(0, 0, 4, 0, 1), x -> x.copy(0, 0, -1, 0, 1), x -> x.copy(Bounds.MOST, 0, 0, 0, 0),
        x -> x.copy(0, 0, Bounds.LEAST, 0, 0), x -> x.copy(4, 0, 3, 0, 1), x -> x.copy(3, 0, 4, 0, 1),
        x -> x.copy(4, 0, 0, 0, -1), x -> x.copy(0, 3, 4, 0, 1));
  }

  @Holds(promise = 9, words = "-5 (r, s);")
  static void copyOfMissing() {
    Bounds.refused(-5, Cities::town, x -> x.copy(3, 0, 0, 0, 1), x -> x.copy(0, 0, 3, 0, 1),
        x -> x.copy(3, 0, 3, 0, 0), x -> x.copy(3, 0, 0, 0, 0), x -> x.copy(0, 0, 3, 0, 0),
        x -> x.copy(3, 0, 0, 0, -1), x -> x.copy(0, 0, 3, 0, -1), x -> x.copy(0, 3, 3, 0, 1),
        x -> x.copy(3, 0, 0, 3, 1));
  }

  @Holds(promise = 9, words = "-7 (n below 0, too).")
  static void copyBeyond() {
    WoodenMains x = Bounds.made(Cities::town);
    Bounds.due(x.copy(0, 0, 1, 21, 3), 3);
    Bounds.due(x.copy(0, 2, 1, 23, 1), 1);
    Bounds.due(x.copy(0, 3, 1, 24, 0), 0);
    Bounds.due(x.copy(0, 0, 2, 0, 0), 0);
    Bounds.due(x.copy(1, 0, 1, 0, 24), 24);
    Bounds.refused(-7, Cities::town, y -> y.copy(0, 0, 1, 22, 3), y -> y.copy(0, 1, 1, 0, 3),
        y -> y.copy(0, 0, 1, 0, 4), y -> y.copy(0, 3, 1, 0, 1), y -> y.copy(0, 0, 1, 24, 1),
        y -> y.copy(0, 0, 2, 0, 1), y -> y.copy(2, 0, 0, 0, 1), y -> y.copy(0, -1, 1, 0, 1),
        y -> y.copy(0, 0, 1, -1, 1), y -> y.copy(0, 0, 1, 0, -1), y -> y.copy(0, -1, 1, -1, 0));
    Bounds.refused(-7, Cities::town, y -> y.copy(0, 0, 1, 0, Bounds.LEAST), y -> y.copy(0, 1, 1, 1, Bounds.MOST),
        y -> y.copy(0, Bounds.MOST, 1, 0, 1), y -> y.copy(0, 0, 1, Bounds.MOST, 1),
        y -> y.copy(0, Bounds.MOST, 1, Bounds.MOST, Bounds.MOST), y -> y.copy(0, Bounds.LEAST, 1, 0, 1),
        y -> y.copy(0, 0, 1, Bounds.LEAST, 1), y -> y.copy(0, Bounds.LEAST, 1, 0, Bounds.LEAST));
  }

  @Holds(promise = 10, words = "A HOUSE is led by a ROW (-1: by none): by which it was (-1).")
  static void leadTellsBefore() {
    WoodenMains x = Cities.star(1);
    x.house(0, 100, 0, 7, true);
    Bounds.due(x.lead(0, -1), -1);
    Bounds.due(x.lead(0, 3), -1);
    Bounds.due(x.lead(0, 0), 3);
    Bounds.due(x.lead(0, 0), 0);
    Bounds.due(x.lead(0, -1), 0);
    Bounds.due(x.lead(0, -1), -1);
    Bounds.due(x.houseOf(0, 2), 7);
    Bounds.due(x.count(11), 0);
  }

  @Holds(promise = 10, words = "Refused as told: -1.")
  static void leadOfNobody() {
    Bounds.refusedAside(-1, Cities::town, x -> x.lead(5, 0), x -> x.lead(-1, 0), x -> x.lead(0, 4),
        x -> x.lead(0, -2), x -> x.lead(5, -1), x -> x.lead(5, 4), x -> x.lead(Bounds.MOST, 0),
        x -> x.lead(Bounds.LEAST, 0), x -> x.lead(0, Bounds.MOST), x -> x.lead(0, Bounds.LEAST));
  }
}
