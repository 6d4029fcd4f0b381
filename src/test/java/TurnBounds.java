/** Boundaries of turns, of turncocks and their walks. */
final class TurnBounds {
  private TurnBounds() {}

  private static void full(WoodenMains x) {
    Cities.line(x, 2);
    for (int t = 0; t < 30; t++) x.turn(t % 2, t % 3, t % 7, t % 24, 1 + t % 6);
  }

  /** Hours of the week from first to last, and none beside them, in which street 0 is let. */
  private static void dueLet(WoodenMains x, int first, int hours) {
    for (int h = 0; h < 168; h++) {
      Bounds.due(x.let(0, h, 0), Math.floorMod(h - first, 168) < hours ? 1 : 0);
    }
  }

  private static WoodenMains oneTurn(int day, int hour, int hours) {
    WoodenMains x = Cities.star(1);
    Bounds.due(x.turn(0, 0, day, hour, hours), 0);
    return x;
  }

  @Holds(promise = 0, words = "TURNS have numbers from 0 on (30 at most): a STREET,")
  static void numbersOfTurns() {
    WoodenMains x = Cities.line(2);
    for (int t = 0; t < 30; t++) Bounds.due(x.turn(t % 2, 0, 0, 0, 1), t);
    Bounds.due(x.count(8), 30);
    Bounds.refused(-6, TurnBounds::full, y -> y.turn(0, 0, 0, 0, 1));
  }

  @Holds(promise = 0, words = "a TURNCOCK (0 .. 2),")
  static void turncocksFromFirstToLast() {
    WoodenMains x = Cities.star(2);
    for (int cock = 0; cock < 3; cock++) Bounds.due(x.turn(0, cock, 0, 0, 1), cock);
    Bounds.due(x.turn(1, 2, 0, 0, 1), 3);
    Bounds.due(x.clashes(0), 0);
    Bounds.due(x.clashes(1), 0);
    Bounds.due(x.clashes(2), 1);
    Bounds.refused(-1, Cities::town, y -> y.turn(0, 3, 0, 0, 1), y -> y.turn(0, -1, 0, 0, 1));
  }

  @Holds(promise = 0, words = "a day of the week (0 .. 6),")
  static void daysFromFirstToLast() {
    dueLet(oneTurn(0, 5, 1), 5, 1);
    dueLet(oneTurn(6, 5, 1), 149, 1);
    Bounds.refused(-4, Cities::town, x -> x.turn(0, 0, -1, 0, 1));
    Bounds.refused(-6, Cities::town, x -> x.turn(0, 0, 7, 0, 1));
  }

  @Holds(promise = 0, words = "an hour (0 .. 23),")
  static void hoursOfDayFromFirstToLast() {
    dueLet(oneTurn(0, 0, 1), 0, 1);
    dueLet(oneTurn(3, 23, 1), 95, 1);
    Bounds.refused(-4, Cities::town, x -> x.turn(0, 0, 0, -1, 1));
    Bounds.refused(-6, Cities::town, x -> x.turn(0, 0, 0, 24, 1));
  }

  @Holds(promise = 0, words = "how many hours (1 .. 6;")
  static void hoursOfTurn() {
    dueLet(oneTurn(1, 3, 1), 27, 1);
    dueLet(oneTurn(1, 3, 6), 27, 6);
    Bounds.refused(-4, Cities::town, x -> x.turn(0, 0, 0, 0, 0));
    Bounds.refused(-6, Cities::town, x -> x.turn(0, 0, 0, 0, 7));
  }

  @Holds(promise = 0, words = "they go on into the next day,")
  static void intoTheNextDay() {
    dueLet(oneTurn(0, 18, 6), 18, 6);
    dueLet(oneTurn(0, 19, 6), 19, 6);
    dueLet(oneTurn(5, 23, 2), 143, 2);
  }

  @Holds(promise = 0, words = "behind the last day into the first).")
  static void behindTheLastDay() {
    dueLet(oneTurn(6, 18, 6), 162, 6);
    dueLet(oneTurn(6, 23, 1), 167, 1);
    dueLet(oneTurn(6, 23, 2), 167, 2);
    dueLet(oneTurn(6, 23, 6), 167, 6);
    dueLet(oneTurn(6, 19, 6), 163, 6);
  }

  @Holds(promise = 0, words = "A STREET is LET in an HOUR OF THE WEEK if a TURN of it has that hour;")
  static void letByAnyTurnOfIt() {
    WoodenMains x = Cities.line(2);
    Bounds.due(x.let(0, 0, 0), 0);
    Bounds.due(x.let(0, 167, 0), 0);
    x.turn(0, 0, 0, 0, 1);
    x.turn(0, 1, 0, 2, 1);
    x.turn(1, 2, 0, 1, 1);
    int[] first = {1, 0, 1, 0};
    int[] second = {0, 1, 0, 0};
    for (int h = 0; h < 4; h++) {
      Bounds.due(x.let(0, h, 0), first[h]);
      Bounds.due(x.let(1, h, 0), second[h]);
    }
  }

  @Holds(promise = 0, words = "it is OPEN if it and all STREETS ahead of it are LET.")
  static void openIfAllAheadAreLet() {
    WoodenMains x = Cities.line(3);
    x.street(0, 10);
    x.turn(2, 0, 0, 0, 4);
    Bounds.due(x.let(2, 0, 1), 0);
    x.turn(0, 0, 0, 1, 3);
    Bounds.due(x.let(2, 1, 1), 0);
    Bounds.due(x.let(0, 1, 1), 1);
    x.turn(1, 0, 0, 2, 1);
    int[] open = {0, 0, 1, 0, 0};
    for (int h = 0; h < 5; h++) Bounds.due(x.let(2, h, 1), open[h]);
    // What lies behind or beside it doesn't matter.
    Bounds.due(x.let(1, 2, 1), 1);
    Bounds.due(x.let(3, 2, 1), 0);
    Bounds.due(x.let(0, 3, 1), 1);
    // A street told later than the turns ahead of it.
    Bounds.due(x.street(1, 10), 4);
    Bounds.due(x.let(4, 2, 1), 0);
    x.turn(4, 0, 0, 1, 2);
    Bounds.due(x.let(4, 1, 1), 0);
    Bounds.due(x.let(4, 2, 1), 1);
  }

  @Holds(promise = 0, words = "A TURNCOCK CLASHES in the week if two TURNS of the same one, of STREETS that are"
      + " not one, have an hour in common,")
  static void clashByAnHourInCommon() {
    Bounds.due(clashesOfTwo(0, 1, 0, 6, 5, 1), 1);
    Bounds.due(clashesOfTwo(0, 1, 0, 6, 6, 1), 0);
    Bounds.due(clashesOfTwo(0, 1, 5, 1, 0, 6), 1);
    Bounds.due(clashesOfTwo(0, 1, 6, 1, 0, 6), 0);
    Bounds.due(clashesOfTwo(0, 1, 3, 2, 3, 2), 1);
    // Round the week's end: hours 164 .. 1 and hour 1, then hour 2.
    Bounds.due(clashesOfTwo(0, 1, 164, 6, 1, 1), 1);
    Bounds.due(clashesOfTwo(0, 1, 164, 6, 2, 1), 0);
    Bounds.due(clashesOfTwo(0, 1, 1, 1, 164, 6), 1);
    Bounds.due(clashesOfTwo(0, 1, 2, 1, 164, 6), 0);
    // Of one street, or of two turncocks, they never clash.
    Bounds.due(clashesOfTwo(0, 0, 3, 2, 3, 2), 0);
    WoodenMains x = Cities.line(2);
    x.turn(0, 0, 0, 0, 6);
    x.turn(1, 1, 0, 0, 6);
    for (int cock = 0; cock < 3; cock++) Bounds.due(x.clashes(cock), 0);
  }

  /** Two turns of turncock 0, of streets a and b of two lines of five: 0 .. 4 and 5 .. 9. */
  private static int clashesOfTwo(int a, int b, int firstOfA, int hoursOfA, int firstOfB, int hoursOfB) {
    WoodenMains x = new WoodenMains();
    for (int s = 0; s < 10; s++) x.street(s == 5 ? -1 : s - 1, 10);
    Bounds.due(x.turn(a, 0, firstOfA / 24, firstOfA % 24, hoursOfA), 0);
    Bounds.due(x.turn(b, 0, firstOfB / 24, firstOfB % 24, hoursOfB), 1);
    return x.clashes(0);
  }

  @Holds(promise = 0, words = "or if from the first hour of the one to the next first hour of the other one"
      + " (round the week's end, too; either way round) there are less hours than their WAY by 2, cut up.")
  static void clashByTooFewHours() {
    // A street of each way from street 4, and how many hours that way needs.
    int[] streets = {4, 3, 2, 1, 0, -1, 5, 6, 7, 8, 9};
    int[] needed = {0, 1, 1, 2, 2, 3, 3, 4, 4, 5, 5};
    for (int way = 1; way <= 10; way++) {
      int other = streets[way];
      if (other < 0) continue;
      for (int hours = 1; hours <= 6; hours++) {
        int clash = hours < needed[way] ? 1 : 0;
        for (int first : new int[] {0, 20, 162, 163, 164, 165, 166, 167}) {
          int second = (first + hours) % 168;
          Bounds.due(clashesOfTwo(4, other, first, 1, second, 1), clash);
          Bounds.due(clashesOfTwo(other, 4, first, 1, second, 1), clash);
          Bounds.due(clashesOfTwo(4, other, second, 1, first, 1), clash);
        }
      }
    }
    // Hours are told from the first hour, however long the turn is.
    Bounds.due(clashesOfTwo(4, 9, 0, 4, 4, 1), 1);
    Bounds.due(clashesOfTwo(4, 9, 0, 5, 5, 1), 0);
    Bounds.due(clashesOfTwo(4, 9, 0, 1, 5, 6), 0);
  }

  @Holds(promise = 0,
      words = "FIRE in a STREET with a PLUG: TURNCOCKS stand at STREETS as told (at first at the ENGINE).")
  static void turncocksAtTheEngineAtFirst() {
    WoodenMains x = Cities.line(3);
    x.end(2, 0);
    Bounds.due(x.fire(2, 0), 4 * 3 + 2 * 3);
    x.stand(1, 2);
    Bounds.due(x.fire(2, 0), 4 * 2 + 2 * 3);
    Bounds.due(x.fire(2, 1), 1);
    x.stand(1, -1);
    Bounds.due(x.fire(2, 0), 4 * 3 + 2 * 3);
    Bounds.due(x.fire(2, 1), 0);
  }

  @Holds(promise = 0, words = "MINUTES: 4 for each STEP on the shortest walk of the TURNCOCK who is quickest")
  static void quickestByTheShortestWalk() {
    WoodenMains x = new WoodenMains();
    for (int s = 0; s < 10; s++) x.street(s == 5 ? -1 : s - 1, 10);
    x.end(4, 0);
    // From the engine and from the far end of the other line.
    Bounds.due(x.fire(4, 0), 4 * 5 + 2 * 5);
    for (int cock = 0; cock < 3; cock++) x.stand(cock, 9);
    Bounds.due(x.fire(4, 0), 4 * 10 + 2 * 5);
    // In the midst of the line the nearer end comes first, and what was passed is passed again.
    x.stand(2, 1);
    Bounds.due(x.fire(4, 0), 4 * 5 + 2 * 5);
    Bounds.due(x.fire(4, 1), 2);
    x.stand(2, 3);
    Bounds.due(x.fire(4, 0), 4 * 5 + 2 * 5);
    x.stand(2, 2);
    Bounds.due(x.fire(4, 0), 4 * 6 + 2 * 5);
    x.stand(1, 0);
    Bounds.due(x.fire(4, 0), 4 * 4 + 2 * 5);
    Bounds.due(x.fire(4, 1), 1);
    x.stand(0, 4);
    Bounds.due(x.fire(4, 1), 0);
  }

  @Holds(promise = 0, words = "(of several the least number)")
  static void leastNumberOfSeveral() {
    WoodenMains x = Cities.line(4);
    x.end(3, 0);
    Bounds.due(x.fire(3, 1), 0);
    x.stand(2, 0);
    Bounds.due(x.fire(3, 1), 2);
    x.stand(1, 3);
    Bounds.due(x.fire(3, 1), 1);
    x.stand(0, 0);
    Bounds.due(x.fire(3, 1), 0);
  }

  @Holds(promise = 0, words = "by which it comes to all STREETS that are not LET now and are the STREET or ahead"
      + " of it, and 2 for each of these.")
  static void streetsThatAreNotLetNow() {
    WoodenMains x = Cities.line(4);
    x.street(1, 10);
    x.end(3, 0);
    x.turn(0, 0, 0, 0, 1);
    x.turn(3, 0, 0, 0, 2);
    x.turn(4, 0, 0, 0, 1);
    // Hour 0: 1 and 2 are shut; hour 1: 0, 1 and 2; hour 2: all of the line.
    Bounds.due(x.fire(3, 2), 2);
    Bounds.due(x.fire(3, 0), 4 * 3 + 2 * 2);
    x.hours(1);
    Bounds.due(x.fire(3, 2), 3);
    Bounds.due(x.fire(3, 0), 4 * 3 + 2 * 3);
    x.hours(1);
    Bounds.due(x.fire(3, 2), 4);
    Bounds.due(x.fire(3, 0), 4 * 4 + 2 * 4);
    x.hours(166);
    Bounds.due(x.fire(3, 2), 2);
    // One alone that is shut, with a turncock at it: no step.
    x.turn(1, 0, 0, 0, 1);
    x.stand(1, 2);
    Bounds.due(x.fire(3, 0), 2);
    Bounds.due(x.fire(3, 2), 1);
    // Streets of another line, and those behind the fire, may be shut.
    WoodenMains apart = Cities.star(2);
    apart.street(1, 10);
    apart.street(-1, 10);
    apart.end(1, 0);
    Bounds.due(apart.fire(1, 0), 4 + 2);
    Bounds.due(apart.fire(1, 2), 1);
    apart.turn(1, 0, 0, 0, 1);
    Bounds.due(apart.fire(1, 0), 0);
    Bounds.due(apart.fire(1, 2), 0);
  }

  @Holds(promise = 0, words = "(Without any: 0, TURNCOCK 0.)")
  static void fireWithoutAnyShut() {
    WoodenMains x = Cities.line(2);
    x.end(1, 0);
    x.stand(1, 1);
    x.stand(2, 1);
    Bounds.due(x.fire(1, 1), 1);
    x.turn(0, 0, 0, 0, 1);
    x.turn(1, 0, 0, 0, 1);
    for (int what = 0; what < 3; what++) Bounds.due(x.fire(1, what), 0);
    x.hours(1);
    int[] allShut = {4 + 2 * 2, 1, 2};
    for (int what = 0; what < 3; what++) Bounds.due(x.fire(1, what), allShut[what]);
  }

  @Holds(promise = 15, words = "A TURN: its number.")
  static void turnTellsItsNumber() {
    WoodenMains x = Bounds.made(Cities::town);
    Bounds.due(x.turn(4, 2, 6, 23, 6), 6);
    Bounds.due(x.turn(0, 0, 0, 0, 1), 7);
    Bounds.due(x.count(8), 8);
  }

  @Holds(promise = 15, words = "-1;")
  static void turnOfNobody() {
    Bounds.refused(-1, Cities::town, x -> x.turn(5, 0, 0, 0, 1), x -> x.turn(-1, 0, 0, 0, 1),
        x -> x.turn(0, 3, 0, 0, 1), x -> x.turn(0, -1, 0, 0, 1), x -> x.turn(Bounds.MOST, 0, 0, 0, 1),
        x -> x.turn(Bounds.LEAST, 0, 0, 0, 1), x -> x.turn(0, Bounds.MOST, 0, 0, 1),
        x -> x.turn(0, Bounds.LEAST, 0, 0, 1), x -> x.turn(5, 0, -1, 0, 1), x -> x.turn(0, 3, 0, -1, 1),
        x -> x.turn(5, 0, 7, 0, 1), x -> x.turn(0, 3, 0, 0, 7));
    Bounds.refused(-1, TurnBounds::full, x -> x.turn(2, 0, 0, 0, 1), x -> x.turn(0, 3, 0, 0, 1));
  }

  @Holds(promise = 15, words = "-4 day, hour, hours;")
  static void turnBelow() {
    Bounds.refused(-4, Cities::town, x -> x.turn(0, 0, -1, 0, 1), x -> x.turn(0, 0, 0, -1, 1),
        x -> x.turn(0, 0, 0, 0, 0), x -> x.turn(0, 0, 0, 0, -1), x -> x.turn(0, 0, Bounds.LEAST, 0, 1),
        x -> x.turn(0, 0, 0, Bounds.LEAST, 1), x -> x.turn(0, 0, 0, 0, Bounds.LEAST));
    // Whichever number is below comes ahead of whichever is above.
    Bounds.refused(-4, Cities::town, x -> x.turn(0, 0, -1, 24, 1), x -> x.turn(0, 0, -1, 0, 7),
        x -> x.turn(0, 0, 7, -1, 1), x -> x.turn(0, 0, 0, -1, 7), x -> x.turn(0, 0, 7, 0, 0),
        x -> x.turn(0, 0, 0, 24, 0));
    Bounds.refused(-4, TurnBounds::full, x -> x.turn(0, 0, 0, 0, 0));
  }

  @Holds(promise = 15, words = "-6 (30, too).")
  static void turnAboveOrOneTooMany() {
    Bounds.refused(-6, Cities::town, x -> x.turn(0, 0, 7, 0, 1), x -> x.turn(0, 0, 0, 24, 1),
        x -> x.turn(0, 0, 0, 0, 7), x -> x.turn(0, 0, Bounds.MOST, 0, 1), x -> x.turn(0, 0, 0, Bounds.MOST, 1),
        x -> x.turn(0, 0, 0, 0, Bounds.MOST));
    Bounds.refused(-6, TurnBounds::full, x -> x.turn(0, 0, 0, 0, 1), x -> x.turn(1, 2, 6, 23, 6));
  }

  @Holds(promise = 16, words = "Whether a STREET is LET (what 0), OPEN (1) in an HOUR OF THE WEEK: 1, 0.")
  static void letOrOpen() {
    WoodenMains x = Cities.line(2);
    x.turn(1, 0, 6, 23, 2);
    x.turn(0, 0, 0, 0, 1);
    Bounds.due(x.let(1, 167, 0), 1);
    Bounds.due(x.let(1, 167, 1), 0);
    Bounds.due(x.let(1, 0, 0), 1);
    Bounds.due(x.let(1, 0, 1), 1);
    Bounds.due(x.let(1, 1, 0), 0);
    Bounds.due(x.let(1, 166, 0), 0);
  }

  @Holds(promise = 16, words = "-1;")
  static void letOfNobody() {
    Bounds.refused(-1, Cities::town, x -> x.let(5, 0, 0), x -> x.let(-1, 0, 0), x -> x.let(Bounds.MOST, 0, 0),
        x -> x.let(Bounds.LEAST, 0, 0), x -> x.let(5, -1, 0), x -> x.let(5, 168, 0), x -> x.let(5, 0, 2));
  }

  @Holds(promise = 16, words = "-4;")
  static void letBelow() {
    Bounds.refused(-4, Cities::town, x -> x.let(0, -1, 0), x -> x.let(0, Bounds.LEAST, 1), x -> x.let(0, -1, 2));
  }

  @Holds(promise = 16, words = "-6 hour 0 .. 167;")
  static void letAbove() {
    Bounds.refused(-6, Cities::town, x -> x.let(0, 168, 0), x -> x.let(0, Bounds.MOST, 1), x -> x.let(0, 168, 2));
    WoodenMains x = Bounds.made(Cities::town);
    Bounds.due(x.let(2, 167, 0), 1);
    Bounds.due(x.let(0, 0, 0), 1);
  }

  @Holds(promise = 16, words = "-2.")
  static void letOfAnotherWhat() {
    Bounds.refused(-2, Cities::town, x -> x.let(0, 0, 2), x -> x.let(0, 167, -1), x -> x.let(0, 0, Bounds.MOST),
        x -> x.let(0, 0, Bounds.LEAST));
  }

  @Holds(promise = 17, words = "How many twos of TURNS there are by which a TURNCOCK CLASHES.")
  static void twosFromNoneToMost() {
    WoodenMains x = Cities.line(2);
    Bounds.due(x.clashes(0), 0);
    for (int t = 0; t < 30; t++) {
      x.turn(t % 2, 0, 0, 0, 1);
      int twos = (t / 2 + 1) * ((t + 1) / 2);
      Bounds.due(x.clashes(0), twos);
    }
    Bounds.due(x.clashes(0), 15 * 15);
    Bounds.due(x.clashes(1), 0);
    Bounds.due(x.clashes(2), 0);
  }

  @Holds(promise = 17, words = "-1.")
  static void clashesOfNobody() {
    Bounds.refused(-1, Cities::town, x -> x.clashes(3), x -> x.clashes(-1), x -> x.clashes(Bounds.MOST),
        x -> x.clashes(Bounds.LEAST));
  }

  @Holds(promise = 21, words = "A TURNCOCK stands at a STREET (-1 at the ENGINE): where it stood.")
  static void standTellsBefore() {
    WoodenMains x = Cities.line(2);
    for (int cock = 0; cock < 3; cock++) {
      Bounds.due(x.stand(cock, 1), -1);
      Bounds.due(x.stand(cock, 0), 1);
      Bounds.due(x.stand(cock, 0), 0);
      Bounds.due(x.stand(cock, -1), 0);
      Bounds.due(x.stand(cock, -1), -1);
    }
    Bounds.due(x.count(11), 0);
  }

  @Holds(promise = 21, words = "Refused as told: -1.")
  static void standOfNobody() {
    Bounds.refusedAside(-1, Cities::town, x -> x.stand(3, 0), x -> x.stand(-1, 0), x -> x.stand(0, 5),
        x -> x.stand(0, -2), x -> x.stand(3, 5), x -> x.stand(3, -1), x -> x.stand(Bounds.MOST, 0),
        x -> x.stand(Bounds.LEAST, 0), x -> x.stand(0, Bounds.MOST), x -> x.stand(0, Bounds.LEAST));
  }

  @Holds(promise = 23, words = "FIRE in a STREET: what 0 MINUTES, 1 the TURNCOCK who comes, 2 how many STREETS it opens.")
  static void fireFromFewestToMost() {
    WoodenMains one = Cities.line(1);
    one.end(0, 0);
    int[] alone = {4 + 2, 0, 1};
    for (int what = 0; what < 3; what++) Bounds.due(one.fire(0, what), alone[what]);
    WoodenMains ten = Cities.line(10);
    ten.end(9, 0);
    ten.stand(2, 9);
    int[] longest = {4 * 9 + 2 * 10, 2, 10};
    for (int what = 0; what < 3; what++) Bounds.due(ten.fire(9, what), longest[what]);
    ten.stand(2, -1);
    Bounds.due(ten.fire(9, 0), 4 * 10 + 2 * 10);
  }

  @Holds(promise = 23, words = "-1;")
  static void fireOfNobody() {
    Bounds.refused(-1, Cities::town, x -> x.fire(5, 0), x -> x.fire(-1, 0), x -> x.fire(Bounds.MOST, 0),
        x -> x.fire(Bounds.LEAST, 0), x -> x.fire(5, 3));
  }

  @Holds(promise = 23, words = "-5 nothing AT THE END;")
  static void fireWithNothing() {
    Bounds.refused(-5, Cities::town, x -> x.fire(0, 0), x -> x.fire(4, 2), x -> x.fire(0, 3), x -> x.fire(0, -1));
    Bounds.refused(-5, x -> {
      Cities.town(x);
      x.clear(1);
    }, x -> x.fire(1, 0));
  }

  @Holds(promise = 23, words = "-2 a TUN, another what.")
  static void fireWithTunOrAnotherWhat() {
    Bounds.refused(-2, Cities::town, x -> x.fire(3, 0), x -> x.fire(3, 2), x -> x.fire(3, 3), x -> x.fire(1, 3),
        x -> x.fire(1, -1), x -> x.fire(2, Bounds.MOST), x -> x.fire(2, Bounds.LEAST));
    // Another what is refused also where nothing is shut.
    Bounds.refused(-2, x -> {
      Cities.line(x, 1);
      x.end(0, 0);
      x.turn(0, 0, 0, 0, 1);
    }, x -> x.fire(0, 3), x -> x.fire(0, -1));
  }
}
