/** Boundaries of an hour that passes: the engine, leaks, and who takes how much. */
final class HourBounds {
  private HourBounds() {}

  @Holds(promise = 0, words = "AN HOUR passes, by the HOUR that is now; then HOUR is 1 more.")
  static void byTheHourThatIsNow() {
    WoodenMains now = Cities.star(1);
    now.coal(10);
    now.turn(0, 0, 0, 0, 1);
    now.hours(1);
    Bounds.due(now.count(18), 1);
    now.hours(1);
    Bounds.due(now.count(18), 1);
    WoodenMains next = Cities.star(1);
    next.coal(10);
    next.turn(0, 0, 0, 1, 1);
    next.hours(1);
    Bounds.due(next.count(18), 0);
    next.hours(1);
    Bounds.due(next.count(18), 1);
    // The drip is that of the week that is now: hour 671 is of week 3, hour 672 of week 4.
    WoodenMains old = Cities.star(1);
    old.coal(100);
    old.turn(0, 0, 6, 23, 2);
    old.hours(671);
    Bounds.due(old.count(4), 7);
    old.hours(1);
    Bounds.due(old.count(4), 8);
    old.hours(1);
    Bounds.due(old.count(4), 10);
    // The last hour of all is hour 4999.
    WoodenMains last = Cities.star(1);
    last.coal(10);
    last.hours(4998);
    last.turn(0, 0, 4999 % 168 / 24, 4999 % 24, 1);
    Bounds.due(last.hours(1), 4999);
    Bounds.due(last.count(18), 0);
    Bounds.due(last.hours(1), 5000);
    Bounds.due(last.count(18), 1);
  }

  @Holds(promise = 0, words = "If some STREET is OPEN the ENGINE works")
  static void worksIfSomeStreetIsOpen() {
    WoodenMains none = new WoodenMains();
    none.coal(10);
    none.hours(200);
    Bounds.due(none.count(3), 10);
    Bounds.due(none.count(18), 0);
    // Let but not open: the street ahead is shut.
    WoodenMains x = Cities.line(2);
    x.coal(10);
    x.turn(1, 0, 0, 0, 6);
    x.hours(3);
    Bounds.due(x.count(3), 10);
    Bounds.due(x.count(18), 0);
    Bounds.due(x.count(7), 0);
    x.turn(0, 0, 0, 3, 1);
    x.hours(3);
    Bounds.due(x.count(3), 9);
    Bounds.due(x.count(18), 1);
  }

  @Holds(promise = 0, words = "if COAL (0 .. 100000; 0 at first) has the BURN (0 .. 50; 1 at first):"
      + " COAL is less by that,")
  static void coalHasTheBurn() {
    // Coal 0 and burn 1 at first.
    dueEngine(0, 1, 0, 0);
    dueEngine(1, 1, 1, 0);
    dueEngine(2, 1, 1, 1);
    dueEngine(49, 50, 0, 49);
    dueEngine(50, 50, 1, 0);
    dueEngine(51, 50, 1, 1);
    dueEngine(0, 0, 1, 0);
    dueEngine(5, 0, 1, 5);
    dueEngine(100000, 50, 1, 99950);
    Bounds.due(new WoodenMains().count(3), 0);
    Bounds.due(new WoodenMains().set(1, 0), 1);
    Bounds.refused(-4, Cities::town, x -> x.set(1, -1), x -> x.coal(-1));
    Bounds.refused(-6, Cities::town, x -> x.set(1, 51), x -> x.coal(100000));
  }

  private static void dueEngine(int coal, int burn, int worked, int coalThen) {
    WoodenMains x = new WoodenMains();
    x.street(-1, 1);
    x.turn(0, 0, 0, 0, 1);
    x.coal(coal);
    x.set(1, burn);
    x.hours(1);
    Bounds.due(x.count(18), worked);
    Bounds.due(x.count(3), coalThen);
    Bounds.due(x.count(7), worked == 1 ? 100 : 0);
  }

  @Holds(promise = 0, words = "and LEFT is its OUTPUT (0 .. 5000; 100 at first); else LEFT is 0.")
  static void leftIsTheOutput() {
    Bounds.due(new WoodenMains().set(0, 1), 100);
    for (int output : new int[] {0, 1, 100, 5000}) {
      WoodenMains x = Cities.tight(1, output);
      x.hours(1);
      Bounds.due(x.count(7), output);
      Bounds.due(x.count(18), 1);
      Bounds.due(x.count(3), 999);
      // In an hour without an open street there is nothing.
      x.hours(1);
      Bounds.due(x.count(7), output);
    }
    WoodenMains cold = Cities.star(1);
    cold.turn(0, 0, 0, 0, 1);
    cold.house(0, 10, 0, 0, true);
    cold.hours(1);
    Bounds.due(cold.count(4), 0);
    Bounds.due(cold.count(7), 0);
    Bounds.due(cold.houseOf(0, 0), 0);
    Bounds.refused(-4, Cities::town, x -> x.set(0, -1));
    Bounds.refused(-6, Cities::town, x -> x.set(0, 5001));
  }

  @Holds(promise = 0, words = "1 OPEN STREETS by numbers: DRIP of each MAIN is taken from LEFT"
      + " (as much as there is): LEAKED.")
  static void leaksAsMuchAsThereIs() {
    // Two open mains of 5 each, one that is shut; a house in the first of them.
    int[] outputs = {0, 4, 5, 9, 10, 11, 45};
    int[] leaked = {0, 4, 5, 9, 10, 10, 10};
    int[] water = {0, 0, 0, 0, 0, 1, 30};
    int[] spilled = {0, 0, 0, 0, 0, 0, 5};
    for (int i = 0; i < outputs.length; i++) {
      WoodenMains x = new WoodenMains();
      for (int s = 0; s < 3; s++) x.street(-1, 50);
      x.house(0, 100, 0, 0, true);
      x.turn(0, 0, 0, 0, 1);
      x.turn(1, 0, 0, 0, 1);
      x.coal(10);
      x.set(0, outputs[i]);
      x.hours(1);
      Bounds.due(x.count(4), leaked[i]);
      Bounds.due(x.houseOf(0, 0), water[i]);
      Bounds.due(x.count(7), spilled[i]);
    }
  }

  @Holds(promise = 0, words = "2 OPEN STREETS by numbers: first, if a PLUG is DRAWN there, 60"
      + " (as much as there is): DRAWN;")
  static void plugDrawsAsMuchAsThereIs() {
    int[] outputs = {0, 1, 59, 60, 61, 100};
    int[] drawn = {0, 1, 59, 60, 60, 60};
    for (int i = 0; i < outputs.length; i++) {
      WoodenMains x = Cities.tight(1, outputs[i]);
      x.end(0, 0);
      x.draw(0, true);
      x.hours(1);
      Bounds.due(x.count(5), drawn[i]);
      Bounds.due(x.count(7), outputs[i] - drawn[i]);
    }
    WoodenMains shut = Cities.tight(1, 100);
    shut.end(0, 0);
    shut.hours(1);
    Bounds.due(shut.count(5), 0);
    Bounds.due(shut.count(7), 100);
    // The plug comes ahead of its street's houses, the lesser street ahead of the greater.
    WoodenMains x = Cities.tight(2, 100);
    for (int s = 0; s < 2; s++) {
      x.house(s, 100, 0, 0, true);
      x.end(s, 0);
      x.draw(s, true);
    }
    x.hours(1);
    Bounds.due(x.count(5), 60 + 10);
    Bounds.due(x.houseOf(0, 0), 30);
    Bounds.due(x.houseOf(1, 0), 0);
  }

  @Holds(promise = 0, words = "then a TUN takes up to 40, as much as it has room for, as there is;")
  static void tunTakesUpTo40() {
    int[] outputs = {0, 39, 40, 41};
    int[] taken = {0, 39, 40, 40};
    for (int i = 0; i < outputs.length; i++) {
      WoodenMains x = Cities.tight(1, outputs[i]);
      x.end(0, 50);
      x.hours(1);
      Bounds.due(x.streetOf(0, 1), taken[i]);
      Bounds.due(x.count(19), taken[i]);
      Bounds.due(x.count(7), outputs[i] - taken[i]);
    }
    // Room of 81, 41, 1 and 0; then of 1 again, and of 40 with less than that left.
    WoodenMains x = Cities.tight(1, 100);
    x.end(0, 81);
    int[] water = {40, 80, 81, 81};
    for (int week = 0; week < 4; week++) {
      x.hours(week == 0 ? 1 : 168);
      Bounds.due(x.streetOf(0, 1), water[week]);
    }
    x.brew(0, 1);
    x.hours(168);
    Bounds.due(x.streetOf(0, 1), 81);
    Bounds.due(x.count(19), 82);
    x.brew(0, 40);
    x.set(0, 39);
    x.hours(168);
    Bounds.due(x.streetOf(0, 1), 80);
    // The tun comes ahead of its street's houses.
    WoodenMains y = Cities.tight(1, 41);
    y.house(0, 100, 0, 0, true);
    y.end(0, 2000);
    y.hours(1);
    Bounds.due(y.streetOf(0, 1), 40);
    Bounds.due(y.houseOf(0, 0), 1);
  }

  @Holds(promise = 0, words = "then HOUSES of the STREET, the lesser FLOORS first, then by numbers:")
  static void lesserFloorsFirst() {
    WoodenMains x = Cities.tight(1, 30 + 30 + 10);
    int[] floors = {5, 0, 9, 0};
    for (int floor : floors) x.house(0, 100, floor, 0, true);
    x.hours(1);
    int[] water = {10, 30, 0, 30};
    for (int h = 0; h < 4; h++) Bounds.due(x.houseOf(h, 0), water[h]);
    WoodenMains alike = Cities.tight(1, 45);
    for (int h = 0; h < 3; h++) alike.house(0, 100, 4, 0, true);
    alike.hours(1);
    int[] inOrder = {30, 15, 0};
    for (int h = 0; h < 3; h++) Bounds.due(alike.houseOf(h, 0), inOrder[h]);
    // A house of a greater street waits, whatever its floor.
    WoodenMains two = Cities.tight(2, 40);
    two.house(1, 100, 0, 0, true);
    two.house(0, 100, 9, 0, true);
    two.hours(1);
    Bounds.due(two.houseOf(1, 0), 30);
    Bounds.due(two.houseOf(0, 0), 10);
  }

  @Holds(promise = 0, words = "each takes up to 30, as there is;")
  static void houseTakesUpTo30() {
    for (boolean ball : new boolean[] {true, false}) {
      int[] outputs = {0, 1, 29, 30, 31};
      int[] water = {0, 1, 29, 30, 30};
      for (int i = 0; i < outputs.length; i++) {
        WoodenMains x = Cities.tight(1, outputs[i]);
        x.house(0, 500, 0, 0, ball);
        x.hours(1);
        Bounds.due(x.houseOf(0, 0), water[i]);
        Bounds.due(x.count(7), outputs[i] - water[i]);
        Bounds.due(x.count(6), 0);
      }
    }
  }

  @Holds(promise = 0, words = "one with a BALL only as much as its CISTERN has room for;")
  static void ballStopsAtTheBrim() {
    // Room of 61, 31, 1 and 0.
    WoodenMains x = Cities.tight(1, 100);
    x.house(0, 61, 0, 0, true);
    int[] water = {30, 60, 61, 61};
    int[] spilled = {70, 140, 239, 339};
    for (int week = 0; week < 4; week++) {
      x.hours(week == 0 ? 1 : 168);
      Bounds.due(x.houseOf(0, 0), water[week]);
      Bounds.due(x.count(7), spilled[week]);
      Bounds.due(x.count(6), 0);
    }
    // What it doesn't take is there for the next one.
    WoodenMains y = Cities.tight(1, 20);
    y.house(0, 10, 0, 0, true);
    y.house(0, 10, 0, 0, true);
    y.hours(1);
    Bounds.due(y.houseOf(0, 0), 10);
    Bounds.due(y.houseOf(1, 0), 10);
  }

  @Holds(promise = 0, words = "of one without what is more than that is WASTED.")
  static void withoutBallWastes() {
    // Room of 61, 31, 1 and 0.
    WoodenMains x = Cities.tight(1, 100);
    x.house(0, 61, 0, 0, false);
    int[] water = {30, 60, 61, 61};
    int[] wasted = {0, 0, 29, 59};
    for (int week = 0; week < 4; week++) {
      x.hours(week == 0 ? 1 : 168);
      Bounds.due(x.houseOf(0, 0), water[week]);
      Bounds.due(x.count(6), wasted[week]);
      Bounds.due(x.count(7), 70 * (week + 1));
    }
    // With less than 30 left: a cistern of 10 that is just full, and one more.
    for (int output = 9; output <= 11; output++) {
      WoodenMains y = Cities.tight(1, output);
      y.house(0, 10, 0, 0, false);
      y.hours(1);
      Bounds.due(y.houseOf(0, 0), Math.min(10, output));
      Bounds.due(y.count(6), output == 11 ? 1 : 0);
      Bounds.due(y.count(7), 0);
    }
  }

  @Holds(promise = 0, words = "3 What is LEFT then is SPILLED.")
  static void spilledFromNothing() {
    for (int output = 129; output <= 131; output++) {
      WoodenMains x = Cities.tight(2, output);
      x.end(0, 0);
      x.draw(0, true);
      x.end(1, 50);
      x.house(1, 100, 0, 20, true);
      x.hours(1);
      Bounds.due(x.count(7), output == 131 ? 1 : 0);
    }
  }

  @Holds(promise = 0, words = "4 All HOUSES by numbers: WATER is less by USE;")
  static void waterIsLessByUse() {
    // A house of an open street, one of a shut street, one that is led by a row.
    WoodenMains x = Cities.tight(1, 100);
    x.street(-1, 1);
    x.house(0, 100, 0, 20, true);
    x.house(1, 100, 0, 1, true);
    x.house(0, 100, 0, 0, true);
    x.row(0, 2);
    x.put(0, 0, 1);
    x.put(0, 1, 20);
    x.lead(2, 0);
    x.hours(1);
    Bounds.due(x.houseOf(0, 0), 10);
    Bounds.due(x.houseOf(1, 1), 1);
    Bounds.due(x.houseOf(2, 0), 29);
    x.hours(1);
    Bounds.due(x.houseOf(2, 0), 9);
    x.hours(1);
    Bounds.due(x.houseOf(2, 0), 8);
    Bounds.due(x.houseOf(2, 1), 0);
  }

  @Holds(promise = 0, words = "if there is not so much it is 0 and the HOUSE was DRY (once more).")
  static void dryIfThereIsNotSoMuch() {
    // 30 come; use 15 ends just at 0, use 16 leaves 14, use 14 leaves 2 behind the second hour.
    int[] uses = {15, 16, 14, 0};
    int[][] water = {{15, 0, 0, 0}, {14, 0, 0, 0}, {16, 2, 0, 0}, {30, 30, 30, 30}};
    int[][] dry = {{0, 0, 1, 2}, {0, 1, 2, 3}, {0, 0, 1, 2}, {0, 0, 0, 0}};
    for (int i = 0; i < uses.length; i++) {
      WoodenMains x = Cities.tight(1, 30);
      x.house(0, 100, 0, uses[i], true);
      for (int hour = 0; hour < 4; hour++) {
        x.hours(1);
        Bounds.due(x.houseOf(0, 0), water[i][hour]);
        Bounds.due(x.houseOf(0, 1), dry[i][hour]);
      }
    }
    // Without water and without use a house is not dry.
    WoodenMains x = Cities.star(1);
    x.house(0, 10, 0, 0, true);
    x.house(0, 10, 0, 1, true);
    x.hours(5000);
    Bounds.due(x.houseOf(0, 1), 0);
    Bounds.due(x.houseOf(1, 1), 5000);
  }
}
