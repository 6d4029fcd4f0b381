/** Cities on which tests of boundaries try their calls. */
final class Cities {
  /** What town() has; the first number that isn't there. */
  static final int TOWN_STREETS = 5;
  static final int TOWN_HOUSES = 5;

  private Cities() {}

  static void empty(WoodenMains x) {}

  /**
   * Some of everything. Streets: 0 and 4 with nothing at the end (4 of iron), 1 with a plug, 2 with a
   * plug that is drawn, 3 with a tun. Rows: 0 of three numbers, 1 of 24, 2 empty, 3 missing. Hour 30.
   */
  static void town(WoodenMains x) {
    x.street(-1, 20);
    x.street(0, 30);
    x.street(1, 10);
    x.street(-1, 50);
    x.street(3, 5);
    x.set(0, 170);
    x.set(1, 2);
    x.set(2, 7);
    x.coal(500);
    x.house(0, 105, 3, 4, true);
    x.house(0, 40, 1, 2, false);
    x.house(1, 100, 0, 0, true);
    x.house(3, 60, 9, 7, false);
    x.house(4, 500, 2, 20, true);
    x.row(0, 3);
    for (int place = 0; place < 3; place++) x.put(0, place, 5 + place);
    x.row(1, 24);
    for (int place = 0; place < 24; place++) x.put(1, place, (place + 2) % 21);
    x.row(2, 0);
    for (int house = 0; house < 4; house++) x.lead(house, house);
    x.end(1, 0);
    x.end(2, 0);
    x.draw(2, true);
    x.end(3, 200);
    x.turn(0, 0, 0, 0, 6);
    x.turn(1, 0, 0, 2, 4);
    x.turn(2, 1, 6, 23, 6);
    x.turn(3, 2, 0, 1, 3);
    x.turn(4, 2, 0, 2, 1);
    x.turn(0, 1, 1, 5, 3);
    x.iron(4);
    x.stand(0, 2);
    x.stand(1, 4);
    x.reading(0, 100, 80, 5);
    x.reading(3, 10, 5, 2);
    x.law(10, 2, 1, 0);
    x.law(20, 3, 4, 5);
    x.hours(30);
  }

  /** The town with all that there may be of each thing. */
  static void fullTown(WoodenMains x) {
    town(x);
    for (int s = TOWN_STREETS; s < 10; s++) x.street(s - 1, 10 + s);
    for (int h = TOWN_HOUSES; h < 24; h++) x.house(h % 10, 10 + h, h % 10, h % 21, h % 2 == 0);
    for (int t = 6; t < 30; t++) x.turn(t % 10, t % 3, t % 7, t % 24, 1 + t % 6);
    for (int r = 2; r < 40; r++) x.reading(r % 10, 100, 90, 20);
    for (int n = 2; n < 20; n++) x.law(n, n, n, 1 + n);
  }

  /** Streets behind one another, each of the length 10. */
  static void line(WoodenMains x, int streets) {
    for (int s = 0; s < streets; s++) x.street(s - 1, 10);
  }

  /** Streets that all begin at the engine, each of the length 10. */
  static void star(WoodenMains x, int streets) {
    for (int s = 0; s < streets; s++) x.street(-1, 10);
  }

  static WoodenMains line(int streets) {
    return Bounds.made(x -> line(x, streets));
  }

  static WoodenMains star(int streets) {
    return Bounds.made(x -> star(x, streets));
  }

  /** Streets without any drip, open in hour 0 of the week alone, with coal for 1000 hours. */
  static WoodenMains tight(int streets, int output) {
    WoodenMains x = new WoodenMains();
    for (int s = 0; s < streets; s++) {
      x.street(-1, 1);
      x.turn(s, 0, 0, 0, 1);
    }
    x.coal(1000);
    x.set(0, output);
    return x;
  }
}
