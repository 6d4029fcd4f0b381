/** Each promise by itself: ordinary inputs, the edges that the document names, and wrong inputs. */
public final class PromisesTest {
  private static final int LEAST = Integer.MIN_VALUE;
  private static final int MOST = Integer.MAX_VALUE;
  private static final int NOBODY_ASIDE = 2000000001;

  public static void main(String[] args) {
    newObject();
    street();
    set();
    coal();
    house();
    row();
    lose();
    put();
    copy();
    lead();
    end();
    clear();
    draw();
    brew();
    turn();
    let();
    clashes();
    hours();
    iron();
    renew();
    stand();
    way();
    fire();
    reading();
    span();
    best();
    bestWorth();
    days();
    dayOf();
    law();
    rate();
    houseOf();
    streetOf();
    count();
    Due.close();
  }

  private static void due(int promise, int got, int want) {
    Due.due(promise, got, want);
  }

  /** A city of streets behind one another, each of the length 10. */
  private static WoodenMains line(int streets) {
    WoodenMains x = new WoodenMains();
    for (int s = 0; s < streets; s++) x.street(s - 1, 10);
    return x;
  }

  /** A city of streets that all begin at the engine, each of the length 10. */
  private static WoodenMains star(int streets) {
    WoodenMains x = new WoodenMains();
    for (int s = 0; s < streets; s++) x.street(-1, 10);
    return x;
  }

  /** An object whose streets are open in hour 0 of the week alone, with coal. */
  private static WoodenMains openAtFirst(int streets, int output) {
    WoodenMains x = star(streets);
    for (int s = 0; s < streets; s++) x.turn(s, 0, 0, 0, 1);
    x.coal(1000);
    x.set(0, output);
    return x;
  }

  private static void newObject() {
    WoodenMains x = new WoodenMains();
    for (int what = 0; what <= 19; what++) due(1, x.count(what), 0);
    due(1, x.houseOf(0, 0), -1);
    due(1, x.streetOf(0, 0), -1);
    due(1, x.best(10000), 0);
    due(1, x.days(0, 0), 0);
    for (int r = 0; r < 4; r++) due(1, x.lose(r), 0);
    for (int cock = 0; cock < 3; cock++) due(1, x.stand(cock, -1), -1);
    WoodenMains other = line(2);
    due(1, x.count(1), 0);
    due(1, other.count(1), 2);
  }

  private static void street() {
    WoodenMains x = new WoodenMains();
    due(2, x.street(0, 1), -1);
    due(2, x.street(-2, 0), -1);
    due(2, x.street(LEAST, 5), -1);
    due(2, x.street(MOST, 5), -1);
    due(2, x.street(-1, 0), -4);
    due(2, x.street(-1, LEAST), -4);
    due(2, x.street(-1, 51), -6);
    due(2, x.street(-1, MOST), -6);
    due(2, x.count(1), 0);
    due(2, x.street(-1, 50), 0);
    due(2, x.street(0, 1), 1);
    due(2, x.street(2, 1), -1);
    for (int s = 2; s < 10; s++) due(2, x.street(s - 1, 10), s);
    due(2, x.street(10, 1), -1);
    due(2, x.street(0, 0), -4);
    due(2, x.street(0, 1), -6);
    due(2, x.count(1), 10);
    due(2, x.streetOf(0, 2), 5);
    due(2, x.streetOf(1, 2), 0);
    due(2, x.streetOf(9, 4), 8);
    WoodenMains later = new WoodenMains();
    later.hours(168 * 5);
    later.street(-1, 10);
    due(2, later.streetOf(0, 2), 1);
    due(2, later.iron(0), 0);
  }

  private static void set() {
    WoodenMains x = new WoodenMains();
    due(3, x.set(0, 0), 100);
    due(3, x.set(0, 5000), 0);
    due(3, x.set(0, 5001), -6);
    due(3, x.set(0, -1), -4);
    due(3, x.set(0, 7), 5000);
    due(3, x.set(1, 0), 1);
    due(3, x.set(1, 50), 0);
    due(3, x.set(1, 51), -6);
    due(3, x.set(1, -1), -4);
    due(3, x.set(1, 2), 50);
    due(3, x.set(2, 1), 10);
    due(3, x.set(2, 99), 1);
    due(3, x.set(2, 100), -6);
    due(3, x.set(2, 0), -4);
    due(3, x.set(2, 5), 99);
    due(3, x.set(3, -1), -2);
    due(3, x.set(-1, MOST), -2);
    due(3, x.set(LEAST, LEAST), -2);
    due(3, x.set(1, MOST), -6);
    due(3, x.set(1, LEAST), -4);
  }

  private static void coal() {
    WoodenMains x = new WoodenMains();
    due(4, x.coal(0), 0);
    due(4, x.coal(99999), 99999);
    due(4, x.coal(2), -6);
    due(4, x.coal(MOST), -6);
    due(4, x.coal(1), 100000);
    due(4, x.coal(0), 100000);
    due(4, x.coal(1), -6);
    due(4, x.coal(-1), -4);
    due(4, x.coal(LEAST), -4);
    due(4, x.count(3), 100000);
  }

  private static void house() {
    WoodenMains x = line(2);
    due(5, x.house(-1, 0, -1, 21, true), -1);
    due(5, x.house(2, 10, 0, 0, true), -1);
    due(5, x.house(0, 9, 10, 0, true), -4);
    due(5, x.house(0, 501, -1, 0, true), -4);
    due(5, x.house(0, 10, 10, -1, true), -4);
    due(5, x.house(0, 501, 0, 0, true), -6);
    due(5, x.house(0, 10, 10, 0, true), -6);
    due(5, x.house(0, 10, 0, 21, true), -6);
    due(5, x.house(0, MOST, MOST, MOST, false), -6);
    due(5, x.house(0, LEAST, LEAST, LEAST, false), -4);
    due(5, x.count(2), 0);
    due(5, x.house(1, 10, 0, 0, true), 0);
    due(5, x.house(0, 500, 9, 20, false), 1);
    due(5, x.houseOf(0, 0), 0);
    due(5, x.houseOf(1, 2), 20);
    due(5, x.houseOf(0, 3), 1);
    due(5, x.streetOf(0, 6), 500);
    for (int h = 2; h < 24; h++) due(5, x.house(0, 10, 0, 0, true), h);
    due(5, x.house(0, 10, 0, 0, true), -6);
    due(5, x.house(0, 9, 0, 0, true), -4);
    due(5, x.house(2, 10, 0, 0, true), -1);
    due(5, x.count(2), 24);
  }

  private static void row() {
    WoodenMains x = new WoodenMains();
    due(6, x.row(-1, -1), -1);
    due(6, x.row(4, 25), -1);
    due(6, x.row(0, -1), -4);
    due(6, x.row(0, LEAST), -4);
    due(6, x.row(0, 25), -6);
    due(6, x.row(0, MOST), -6);
    due(6, x.lose(0), 0);
    due(6, x.row(0, 0), 0);
    due(6, x.put(0, 0, 1), -7);
    due(6, x.row(3, 24), 24);
    due(6, x.put(3, 23, 20), 0);
    due(6, x.row(3, 25), -6);
    due(6, x.put(3, 23, 20), 20);
    due(6, x.row(3, 24), 24);
    due(6, x.put(3, 23, 1), 0);
    due(6, x.row(3, 2), 2);
    due(6, x.put(3, 2, 1), -7);
    due(6, x.row(3, 24), 24);
    due(6, x.put(3, 23, 1), 0);
  }

  private static void lose() {
    WoodenMains x = new WoodenMains();
    due(7, x.lose(-1), -1);
    due(7, x.lose(4), -1);
    due(7, x.lose(LEAST), -1);
    due(7, x.lose(3), 0);
    x.row(3, 0);
    x.row(2, 4);
    due(7, x.lose(3), 1);
    due(7, x.lose(3), 0);
    due(7, x.put(3, 0, 0), -5);
    due(7, x.put(2, 0, 0), 0);
    due(7, x.count(11), 3);
  }

  private static void put() {
    WoodenMains x = new WoodenMains();
    due(8, x.put(-1, -1, -1), -1);
    due(8, x.put(4, 0, 0), -1);
    due(8, x.put(0, -1, -1), -5);
    x.row(0, 3);
    due(8, x.put(0, 3, -1), -7);
    due(8, x.put(0, -1, 21), -7);
    due(8, x.put(0, LEAST, 0), -7);
    due(8, x.put(0, MOST, 0), -7);
    due(8, x.put(0, 2, -1), -4);
    due(8, x.put(0, 2, 21), -6);
    due(8, x.put(0, 2, 20), 0);
    due(8, x.put(0, 2, 0), 20);
    due(8, x.put(0, 0, 5), 0);
    due(8, x.put(0, 0, 6), 5);
    due(8, x.put(0, 1, 6), 0);
  }

  private static void copy() {
    WoodenMains x = new WoodenMains();
    due(9, x.copy(-1, 0, 0, 0, -1), -1);
    due(9, x.copy(0, 0, 4, 0, 0), -1);
    due(9, x.copy(0, 0, 1, 0, -1), -5);
    x.row(0, 5);
    due(9, x.copy(0, 0, 1, 0, -1), -5);
    due(9, x.copy(1, 0, 0, 0, -1), -5);
    due(9, x.copy(0, 0, 0, 0, -1), -7);
    x.row(1, 3);
    for (int i = 0; i < 5; i++) x.put(0, i, i + 1);
    due(9, x.copy(0, 2, 1, 0, 3), 3);
    due(9, x.put(1, 0, 0), 3);
    due(9, x.put(1, 2, 0), 5);
    due(9, x.copy(0, 3, 1, 0, 3), -7);
    due(9, x.copy(0, 0, 1, 1, 3), -7);
    due(9, x.copy(0, -1, 1, 0, 1), -7);
    due(9, x.copy(0, 0, 1, -1, 1), -7);
    due(9, x.copy(0, 1, 1, 1, MOST), -7);
    due(9, x.copy(0, MOST, 1, 1, 2), -7);
    due(9, x.copy(0, 1, 1, MOST, MOST), -7);
    due(9, x.copy(0, 0, 1, 0, LEAST), -7);
    due(9, x.copy(0, LEAST, 1, LEAST, LEAST), -7);
    due(9, x.copy(0, 5, 1, 3, 0), 0);
    due(9, x.copy(0, 6, 1, 3, 0), -7);
    due(9, x.copy(0, 5, 1, 4, 0), -7);
    due(9, x.copy(0, 0, 0, 1, 4), 4);
    int[] forward = {1, 1, 2, 3, 4};
    for (int i = 0; i < 5; i++) due(9, x.put(0, i, i + 1), forward[i]);
    due(9, x.copy(0, 1, 0, 0, 4), 4);
    int[] backward = {2, 3, 4, 5, 5};
    for (int i = 0; i < 5; i++) due(9, x.put(0, i, 0), backward[i]);
  }

  private static void lead() {
    WoodenMains x = line(1);
    x.house(0, 100, 0, 7, true);
    due(10, x.lead(1, 0), NOBODY_ASIDE);
    due(10, x.lead(-1, 0), NOBODY_ASIDE);
    due(10, x.lead(0, 4), NOBODY_ASIDE);
    due(10, x.lead(0, -2), NOBODY_ASIDE);
    due(10, x.lead(LEAST, MOST), NOBODY_ASIDE);
    due(10, x.count(11), 5);
    due(10, x.lead(0, -1), -1);
    due(10, x.lead(0, 3), -1);
    due(10, x.lead(0, 0), 3);
    due(10, x.houseOf(0, 2), 7);
    x.row(0, 0);
    due(10, x.houseOf(0, 2), 7);
    x.row(0, 1);
    due(10, x.houseOf(0, 2), 0);
    x.row(0, 5);
    x.put(0, 3, 11);
    x.put(0, 4, 12);
    x.hours(23);
    due(10, x.houseOf(0, 2), 11);
    x.hours(1);
    due(10, x.houseOf(0, 2), 0);
    x.hours(4);
    due(10, x.houseOf(0, 2), 12);
    due(10, x.lead(0, -1), 0);
    due(10, x.houseOf(0, 2), 7);
  }

  private static void end() {
    WoodenMains x = star(4);
    due(11, x.end(4, -1), -1);
    due(11, x.end(-1, 0), -1);
    due(11, x.end(0, -1), -4);
    due(11, x.end(0, LEAST), -4);
    due(11, x.end(0, 1), -4);
    due(11, x.end(0, 49), -4);
    due(11, x.end(0, 2001), -6);
    due(11, x.end(0, MOST), -6);
    due(11, x.streetOf(0, 0), 0);
    due(11, x.end(0, 0), 1);
    due(11, x.end(1, 50), 1);
    due(11, x.end(2, 2000), 1);
    due(11, x.end(0, -1), -3);
    due(11, x.end(1, 2001), -3);
    due(11, x.end(2, 0), -3);
    due(11, x.streetOf(0, 0), 1);
    due(11, x.streetOf(0, 5), 0);
    due(11, x.streetOf(1, 0), 2);
    due(11, x.streetOf(2, 1), 0);
    due(11, x.streetOf(2, 6), 2000);
    due(11, x.streetOf(3, 0), 0);
  }

  private static void clear() {
    WoodenMains x = openAtFirst(2, 500);
    due(12, x.clear(2), -1);
    due(12, x.clear(-1), -1);
    due(12, x.clear(0), -5);
    x.end(0, 100);
    x.end(1, 0);
    x.draw(1, true);
    x.hours(1);
    due(12, x.clear(0), 40);
    due(12, x.clear(0), -5);
    due(12, x.clear(1), 0);
    due(12, x.streetOf(0, 0), 0);
    due(12, x.streetOf(0, 1), 0);
    due(12, x.streetOf(0, 6), 0);
    due(12, x.streetOf(1, 5), 0);
    due(12, x.end(0, 100), 1);
    due(12, x.streetOf(0, 1), 0);
    due(12, x.end(1, 0), 1);
    due(12, x.streetOf(1, 5), 0);
    due(12, x.draw(1, false), 0);
  }

  private static void draw() {
    WoodenMains x = openAtFirst(3, 500);
    due(13, x.draw(3, true), -1);
    due(13, x.draw(-1, true), -1);
    due(13, x.draw(0, false), -5);
    x.end(0, 0);
    x.end(1, 60);
    due(13, x.draw(1, false), -2);
    due(13, x.draw(0, false), 0);
    due(13, x.draw(0, true), 1);
    due(13, x.draw(0, true), 0);
    due(13, x.streetOf(0, 5), 1);
    due(13, x.draw(0, false), 1);
    due(13, x.streetOf(0, 5), 0);
    x.hours(168);
    due(13, x.count(5), 0);
    x.draw(0, true);
    x.hours(168);
    due(13, x.count(5), 60);
    x.set(0, 33);
    x.hours(168);
    due(13, x.count(5), 60 + 30);
  }

  private static void brew() {
    WoodenMains x = openAtFirst(3, 500);
    x.end(0, 60);
    x.end(1, 0);
    due(14, x.brew(3, -1), -1);
    due(14, x.brew(-1, 0), -1);
    due(14, x.brew(2, -1), -5);
    due(14, x.brew(1, -1), -2);
    due(14, x.brew(0, -1), -4);
    due(14, x.brew(0, LEAST), -4);
    due(14, x.brew(0, 1), -6);
    due(14, x.brew(0, MOST), -6);
    due(14, x.brew(0, 0), 0);
    x.hours(1);
    due(14, x.brew(0, 41), -6);
    due(14, x.brew(0, 15), 25);
    due(14, x.streetOf(0, 6), 35);
    x.hours(168);
    due(14, x.streetOf(0, 1), 60);
    due(14, x.count(19), 75);
    due(14, x.brew(0, 60), 0);
  }

  private static void turn() {
    WoodenMains x = line(1);
    due(15, x.turn(1, 0, -1, 0, 1), -1);
    due(15, x.turn(-1, 0, 0, 0, 1), -1);
    due(15, x.turn(0, 3, 0, 0, 7), -1);
    due(15, x.turn(0, -1, 0, 0, 1), -1);
    due(15, x.turn(0, 0, -1, 24, 1), -4);
    due(15, x.turn(0, 0, 7, -1, 1), -4);
    due(15, x.turn(0, 0, 7, 0, 0), -4);
    due(15, x.turn(0, 0, 7, 0, 1), -6);
    due(15, x.turn(0, 0, 0, 24, 1), -6);
    due(15, x.turn(0, 0, 0, 0, 7), -6);
    due(15, x.turn(0, 0, MOST, MOST, MOST), -6);
    due(15, x.turn(0, 0, LEAST, LEAST, LEAST), -4);
    due(15, x.count(8), 0);
    due(15, x.turn(0, 2, 6, 23, 6), 0);
    due(15, x.let(0, 166, 0), 0);
    due(15, x.let(0, 167, 0), 1);
    due(15, x.let(0, 0, 0), 1);
    due(15, x.let(0, 4, 0), 1);
    due(15, x.let(0, 5, 0), 0);
    due(15, x.turn(0, 0, 2, 22, 3), 1);
    due(15, x.let(0, 72, 0), 1);
    due(15, x.let(0, 73, 0), 0);
    for (int t = 2; t < 30; t++) due(15, x.turn(0, 0, 0, 0, 1), t);
    due(15, x.turn(0, 0, 0, 0, 1), -6);
    due(15, x.turn(0, 0, 0, 0, 0), -4);
    due(15, x.turn(0, 3, 0, 0, 1), -1);
    due(15, x.count(8), 30);
  }

  private static void let() {
    WoodenMains x = line(3);
    x.turn(1, 0, 0, 5, 2);
    x.turn(2, 0, 0, 5, 2);
    due(16, x.let(3, -1, 2), -1);
    due(16, x.let(-1, 0, 0), -1);
    due(16, x.let(0, -1, 2), -4);
    due(16, x.let(0, 168, 2), -6);
    due(16, x.let(0, MOST, 0), -6);
    due(16, x.let(0, 0, 2), -2);
    due(16, x.let(0, 0, -1), -2);
    due(16, x.let(2, 5, 0), 1);
    due(16, x.let(2, 5, 1), 0);
    x.turn(0, 0, 0, 6, 1);
    due(16, x.let(2, 5, 1), 0);
    due(16, x.let(2, 6, 1), 1);
    due(16, x.let(1, 6, 1), 1);
    due(16, x.let(0, 6, 1), 1);
    due(16, x.let(0, 5, 0), 0);
    due(16, x.let(0, 167, 0), 0);
  }

  private static void clashes() {
    WoodenMains x = line(5);
    due(17, x.clashes(-1), -1);
    due(17, x.clashes(3), -1);
    due(17, x.clashes(0), 0);
    // Way 4: two hours are enough, one is not, whichever comes first and over the week's end.
    x.turn(0, 0, 0, 10, 1);
    x.turn(4, 0, 0, 12, 1);
    due(17, x.clashes(0), 0);
    x.turn(4, 0, 0, 9, 1);
    due(17, x.clashes(0), 1);
    x.turn(4, 1, 6, 23, 1);
    x.turn(0, 1, 0, 0, 1);
    due(17, x.clashes(1), 1);
    due(17, x.clashes(0), 1);
    // Way 3 needs two hours as well.
    x.turn(0, 2, 1, 10, 1);
    x.turn(3, 2, 1, 11, 1);
    due(17, x.clashes(2), 1);
    // Way 1 needs one; a common hour counts whatever the way; one street never clashes with itself.
    x.turn(0, 2, 3, 0, 6);
    x.turn(1, 2, 3, 6, 1);
    due(17, x.clashes(2), 1);
    x.turn(1, 2, 3, 5, 1);
    due(17, x.clashes(2), 2);
    x.turn(1, 2, 3, 5, 2);
    due(17, x.clashes(2), 3);
    // Hours that only touch are not in common, whichever turn was told first.
    WoodenMains touch = star(2);
    touch.turn(0, 0, 0, 6, 1);
    touch.turn(1, 0, 0, 2, 4);
    due(17, touch.clashes(0), 0);
    touch.turn(1, 0, 0, 7, 4);
    due(17, touch.clashes(0), 0);
    touch.turn(1, 0, 0, 1, 6);
    due(17, touch.clashes(0), 1);
    WoodenMains end = star(2);
    end.turn(0, 0, 6, 22, 6);
    end.turn(1, 0, 0, 3, 1);
    due(17, end.clashes(0), 1);
    end.turn(1, 0, 0, 4, 1);
    due(17, end.clashes(0), 1);
  }

  private static void hours() {
    WoodenMains x = new WoodenMains();
    due(18, x.hours(0), -4);
    due(18, x.hours(LEAST), -4);
    due(18, x.hours(5001), -6);
    due(18, x.hours(MOST), -6);
    due(18, x.hours(4999), 4999);
    due(18, x.hours(2), -6);
    due(18, x.hours(1), 5000);
    due(18, x.hours(1), -6);
    due(18, x.count(0), 5000);
    engineHours();
    orderOfHouses();
    wasteAndDryness();
    leaksAheadOfAll();
  }

  private static void engineHours() {
    WoodenMains x = star(1);
    x.set(1, 3);
    x.coal(7);
    x.hours(1);
    due(18, x.count(3), 7);
    due(18, x.count(18), 0);
    x.turn(0, 0, 0, 2, 3);
    x.hours(1);
    due(18, x.count(18), 0);
    x.hours(3);
    due(18, x.count(18), 2);
    due(18, x.count(3), 1);
    due(18, x.count(4), 2);
    due(18, x.count(7), 198);
    WoodenMains free = openAtFirst(1, 10);
    WoodenMains none = star(1);
    none.turn(0, 0, 0, 0, 1);
    none.set(1, 0);
    none.hours(1);
    due(18, none.count(18), 1);
    due(18, none.count(7), 99);
    free.set(1, 50);
    free.hours(1);
    due(18, free.count(3), 950);
    WoodenMains behind = line(2);
    behind.coal(5);
    behind.turn(1, 0, 0, 0, 6);
    behind.hours(6);
    due(18, behind.count(18), 0);
  }

  private static void orderOfHouses() {
    WoodenMains x = openAtFirst(2, 1 + 1 + 70);
    x.house(1, 100, 0, 0, true);
    x.house(0, 100, 2, 0, true);
    x.house(0, 100, 1, 0, true);
    x.house(0, 100, 2, 0, true);
    x.house(0, 100, 0, 0, true);
    x.hours(1);
    due(18, x.houseOf(4, 0), 30);
    due(18, x.houseOf(2, 0), 30);
    due(18, x.houseOf(1, 0), 10);
    due(18, x.houseOf(3, 0), 0);
    due(18, x.houseOf(0, 0), 0);
    due(18, x.count(7), 0);
    WoodenMains between = openAtFirst(1, 1 + 100);
    int[] floors = {0, 2, 1, 3, 1};
    int[] waters = {30, 10, 30, 0, 30};
    for (int floor : floors) between.house(0, 100, floor, 0, true);
    between.hours(1);
    for (int h = 0; h < 5; h++) due(18, between.houseOf(h, 0), waters[h]);
    WoodenMains ends = openAtFirst(2, 2 + 60 + 40 + 5);
    ends.end(0, 0);
    ends.draw(0, true);
    ends.end(1, 50);
    ends.house(0, 100, 0, 0, true);
    ends.house(1, 100, 0, 0, true);
    ends.hours(1);
    due(18, ends.houseOf(0, 0), 30);
    due(18, ends.streetOf(1, 1), 15);
    due(18, ends.houseOf(1, 0), 0);
    ends.hours(168);
    due(18, ends.streetOf(1, 1), 30);
    due(18, ends.houseOf(0, 0), 60);
  }

  private static void wasteAndDryness() {
    WoodenMains x = openAtFirst(1, 1 + 45);
    x.house(0, 20, 0, 5, false);
    x.house(0, 10, 1, 10, true);
    x.hours(1);
    due(18, x.count(6), 10);
    due(18, x.houseOf(0, 0), 15);
    due(18, x.houseOf(1, 0), 0);
    due(18, x.houseOf(1, 1), 0);
    due(18, x.count(7), 5);
    x.hours(3);
    due(18, x.houseOf(0, 0), 0);
    due(18, x.houseOf(0, 1), 0);
    due(18, x.houseOf(1, 1), 3);
    x.hours(1);
    due(18, x.houseOf(0, 1), 1);
    WoodenMains full = openAtFirst(1, 41);
    full.house(0, 10, 0, 0, false);
    full.hours(1 + 168);
    due(18, full.count(6), 20 + 30);
    due(18, full.houseOf(0, 0), 10);
    due(18, full.count(7), 10 + 10);
    WoodenMains short1 = star(1);
    short1.house(0, 10, 0, 3, true);
    short1.turn(0, 0, 0, 0, 1);
    short1.coal(1);
    short1.set(0, 1 + 5);
    short1.hours(2);
    due(18, short1.houseOf(0, 0), 0);
    due(18, short1.houseOf(0, 1), 1);
  }

  private static void leaksAheadOfAll() {
    WoodenMains x = new WoodenMains();
    x.street(-1, 50);
    x.street(-1, 30);
    x.turn(0, 0, 0, 0, 1);
    x.turn(1, 0, 0, 0, 1);
    x.end(0, 0);
    x.draw(0, true);
    x.coal(100);
    x.set(0, 9);
    x.hours(1);
    due(18, x.count(4), 8);
    due(18, x.count(5), 1);
    x.set(0, 6);
    x.hours(168);
    due(18, x.count(4), 8 + 6);
    x.set(0, 100);
    x.hours(168 * 3);
    due(18, x.count(4), 14 + 8 + 8 + 16);
  }

  private static void iron() {
    WoodenMains x = star(2);
    due(19, x.iron(2), -1);
    due(19, x.iron(-1), -1);
    x.hours(168 * 5 - 1);
    due(19, x.streetOf(0, 2), 2);
    due(19, x.iron(0), 4);
    due(19, x.iron(0), -3);
    due(19, x.streetOf(0, 2), 0);
    due(19, x.streetOf(0, 3), 1);
    due(19, x.streetOf(1, 3), 0);
    due(19, x.streetOf(1, 2), 2);
    x.hours(1);
    due(19, x.iron(1), 5);
  }

  private static void renew() {
    WoodenMains x = star(2);
    due(20, x.renew(2), -1);
    due(20, x.renew(-1), -1);
    x.hours(168 * 4);
    due(20, x.streetOf(0, 2), 2);
    due(20, x.renew(0), 4);
    due(20, x.streetOf(0, 2), 1);
    due(20, x.streetOf(1, 2), 2);
    due(20, x.renew(0), 0);
    x.hours(167);
    due(20, x.renew(0), 0);
    x.hours(1);
    due(20, x.renew(0), 1);
    x.iron(0);
    due(20, x.renew(0), -3);
    due(20, x.iron(1), 5);
  }

  private static void stand() {
    WoodenMains x = line(2);
    due(21, x.stand(3, 0), NOBODY_ASIDE);
    due(21, x.stand(-1, 0), NOBODY_ASIDE);
    due(21, x.stand(0, 2), NOBODY_ASIDE);
    due(21, x.stand(0, -2), NOBODY_ASIDE);
    due(21, x.stand(MOST, LEAST), NOBODY_ASIDE);
    due(21, x.count(11), 5);
    due(21, x.stand(2, 1), -1);
    due(21, x.stand(2, 0), 1);
    due(21, x.stand(2, -1), 0);
    due(21, x.stand(2, -1), -1);
    due(21, x.stand(0, 0), -1);
    due(21, x.stand(1, 0), -1);
  }

  private static void way() {
    WoodenMains x = line(5);
    x.street(-1, 1);
    x.street(2, 1);
    due(22, x.way(-2, 0), -1);
    due(22, x.way(0, 7), -1);
    due(22, x.way(MOST, LEAST), -1);
    due(22, x.way(-1, -1), 0);
    due(22, x.way(3, 3), 0);
    due(22, x.way(-1, 4), 5);
    due(22, x.way(4, -1), 5);
    due(22, x.way(0, 4), 4);
    due(22, x.way(4, 5), 6);
    due(22, x.way(5, 4), 6);
    due(22, x.way(6, 4), 3);
    due(22, x.way(6, 5), 5);
    due(22, line(10).way(-1, 9), 10);
  }

  private static void fire() {
    WoodenMains x = line(4);
    x.street(0, 1);
    due(23, x.fire(5, 0), -1);
    due(23, x.fire(-1, 9), -1);
    due(23, x.fire(3, 9), -5);
    x.end(2, 50);
    due(23, x.fire(2, 0), -2);
    x.end(3, 0);
    due(23, x.fire(3, 3), -2);
    due(23, x.fire(3, -1), -2);
    due(23, x.fire(3, 0), 4 * 4 + 2 * 4);
    due(23, x.fire(3, 1), 0);
    due(23, x.fire(3, 2), 4);
    // From the middle it pays to go to the nearer end first.
    x.stand(2, 2);
    due(23, x.fire(3, 0), 4 * 4 + 2 * 4);
    due(23, x.fire(3, 1), 0);
    x.stand(0, 4);
    x.stand(1, 4);
    due(23, x.fire(3, 0), 4 * 4 + 2 * 4);
    x.stand(2, 3);
    due(23, x.fire(3, 0), 4 * 3 + 2 * 4);
    due(23, x.fire(3, 1), 2);
    x.stand(1, 0);
    due(23, x.fire(3, 1), 1);
    // What is let in between still has to be walked through, and is not opened.
    x.turn(1, 0, 0, 0, 1);
    x.turn(2, 0, 0, 0, 1);
    due(23, x.fire(3, 0), 4 * 3 + 2 * 2);
    due(23, x.fire(3, 2), 2);
    x.turn(3, 0, 0, 0, 1);
    due(23, x.fire(3, 0), 2);
    x.turn(0, 0, 0, 0, 1);
    due(23, x.fire(3, 0), 0);
    due(23, x.fire(3, 1), 0);
    due(23, x.fire(3, 2), 0);
    x.hours(1);
    due(23, x.fire(3, 2), 4);
    x.hours(167);
    due(23, x.fire(3, 2), 0);
    // A street of another line doesn't matter, whether it is shut or not.
    WoodenMains apart = star(3);
    apart.end(1, 0);
    due(23, apart.fire(1, 0), 4 + 2);
    due(23, apart.fire(1, 2), 1);
    WoodenMains longest = line(10);
    longest.end(9, 0);
    due(23, longest.fire(9, 0), 4 * 10 + 2 * 10);
    due(23, longest.fire(9, 2), 10);
  }

  private static void reading() {
    WoodenMains x = star(2);
    due(24, x.reading(2, -1, 0, 0), -1);
    due(24, x.reading(-1, 0, 0, 0), -1);
    due(24, x.reading(0, -1, 5001, 0), -4);
    due(24, x.reading(0, 5001, -1, 0), -4);
    due(24, x.reading(0, 5001, 0, -1), -4);
    due(24, x.reading(0, 5001, 0, 0), -6);
    due(24, x.reading(0, 0, 5001, 0), -6);
    due(24, x.reading(0, 0, 0, 51), -6);
    due(24, x.reading(0, MOST, MOST, MOST), -6);
    due(24, x.reading(0, LEAST, LEAST, LEAST), -4);
    due(24, x.count(9), 0);
    due(24, x.span(0, 1), 5000);
    due(24, x.reading(0, 5000, 5000, 50), 1);
    due(24, x.span(0, 0), 0);
    due(24, x.span(0, 1), 50);
    for (int n = 2; n <= 40; n++) due(24, x.reading(n % 2, 10, 5, 5), n);
    due(24, x.reading(0, 0, 5000, 0), -6);
    due(24, x.reading(1, 0, -1, 0), -4);
    due(24, x.reading(2, 0, 0, 0), -1);
    due(24, x.count(9), 40);
    due(24, x.span(0, 1), 10);
  }

  private static void span() {
    WoodenMains x = star(3);
    due(25, x.span(3, 2), -1);
    due(25, x.span(-1, 0), -1);
    due(25, x.span(0, 2), -2);
    due(25, x.span(0, -1), -2);
    due(25, x.span(0, 0), 0);
    due(25, x.span(0, 1), 5000);
    x.reading(0, 100, 60, 10);
    due(25, x.span(0, 0), 30);
    due(25, x.span(0, 1), 50);
    x.reading(0, 100, 80, 10);
    due(25, x.span(0, 0), 30);
    due(25, x.span(0, 1), 30);
    x.reading(0, 100, 69, 0);
    due(25, x.span(0, 0), -9);
    due(25, x.span(0, 1), -9);
    due(25, x.span(0, 2), -2);
    x.reading(1, 10, 50, 40);
    due(25, x.span(1, 0), 0);
    due(25, x.span(1, 1), 0);
    x.reading(2, 10, 50, 39);
    due(25, x.span(2, 0), -9);
    due(25, x.count(12), 3);
    WoodenMains great = star(1);
    great.reading(0, 5000, 10, 50);
    due(25, great.span(0, 0), 4940);
    due(25, great.span(0, 1), 5000);
  }

  private static void best() {
    WoodenMains x = star(4);
    due(26, x.best(-1), -4);
    due(26, x.best(LEAST), -4);
    due(26, x.best(10001), -6);
    due(26, x.best(MOST), -6);
    // Without an open hour a main is worth nothing, and none is fewer than some.
    due(26, x.best(10000), 0);
    due(26, x.best(0), 0);
    x.turn(1, 0, 0, 0, 2);
    x.turn(2, 0, 0, 0, 2);
    x.turn(3, 0, 0, 0, 4);
    due(26, x.best(99), 0);
    due(26, x.best(100), 8);
    due(26, x.best(200), 8 | 2);
    due(26, x.best(10000), 8 | 4 | 2);
    x.turn(3, 0, 0, 0, 4);
    due(26, x.best(100), 8);
    x.iron(3);
    due(26, x.best(100), 2);
    due(26, x.best(10000), 4 | 2);
    x.set(2, 99);
    due(26, x.best(989), 0);
    due(26, x.best(990), 2);
    // One street of worth 2 is better than two of worth 1.
    WoodenMains few = new WoodenMains();
    few.street(-1, 10);
    few.street(-1, 10);
    few.street(-1, 20);
    for (int s = 0; s < 3; s++) few.turn(s, 0, 0, 0, 1);
    due(26, few.best(200), 4);
    due(26, few.best(300), 4 | 1);
    WoodenMains all = star(10);
    for (int s = 0; s < 10; s++) all.turn(s, 0, s % 7, s, 1);
    due(26, all.best(10000), 1023);
    due(26, all.best(300), 7);
    // Behind a street that is shut no hour is open.
    WoodenMains shut = line(2);
    shut.turn(1, 0, 0, 0, 6);
    due(26, shut.best(10000), 0);
    shut.turn(0, 0, 0, 5, 6);
    due(26, shut.best(100), 1);
    due(26, shut.best(200), 3);
  }

  private static void bestWorth() {
    WoodenMains x = star(2);
    due(27, x.bestWorth(-1), -4);
    due(27, x.bestWorth(10001), -6);
    due(27, x.bestWorth(10000), 0);
    x.turn(0, 0, 6, 23, 6);
    x.turn(0, 1, 0, 0, 6);
    x.turn(1, 0, 0, 0, 3);
    due(27, x.bestWorth(99), 0);
    due(27, x.bestWorth(100), 7);
    due(27, x.bestWorth(200), 10);
    x.hours(168 * 4);
    due(27, x.bestWorth(200), 20);
    x.renew(0);
    due(27, x.bestWorth(200), 13);
    x.iron(0);
    due(27, x.bestWorth(200), 6);
    x.iron(1);
    due(27, x.bestWorth(10000), 0);
    due(27, x.count(14), 1);
    due(27, x.count(16), 1);
  }

  /** Streets whose needs are these. */
  private static WoodenMains needs(int... all) {
    WoodenMains x = star(all.length);
    for (int s = 0; s < all.length; s++) {
      if (all[s] > 0) x.house(s, all[s], 0, 0, true);
    }
    return x;
  }

  private static void days() {
    WoodenMains x = needs(100, 90, 80, 70, 60, 50, 40, 30);
    due(28, x.days(256, -1), -1);
    due(28, x.days(-1, 0), -1);
    due(28, x.days(LEAST, 0), -1);
    due(28, x.days(MOST, MOST), -1);
    due(28, x.days(127, -1), -6);
    due(28, x.days(63, -1), -4);
    due(28, x.days(63, LEAST), -4);
    due(28, x.days(63, 100001), -6);
    due(28, x.days(63, 100000), 0);
    due(28, x.days(0, 0), 0);
    due(28, x.days(0, -1), -4);
    due(28, x.days(0, 100001), -6);
    due(28, x.days(63, 0), 450);
    due(28, x.days(63, 75), 25 + 15 + 5);
    due(28, x.days(252, 65), 15 + 5);
    due(28, x.days(1, 40), 60);
    x.end(0, 50);
    due(28, x.days(1, 40), 110);
    x.turn(0, 0, 0, 0, 1);
    x.coal(1);
    x.hours(1);
    due(28, x.days(1, 40), 110 - 70);
  }

  private static void dueDays(WoodenMains x, int set, int sum, int... days) {
    for (int s = 0; s < days.length; s++) due(29, x.dayOf(set, sum, s), days[s]);
  }

  private static void dayOf() {
    WoodenMains x = needs(100, 90, 80, 70, 60, 50, 40, 30);
    due(29, x.dayOf(256, -1, -1), -1);
    due(29, x.dayOf(127, -1, -1), -6);
    due(29, x.dayOf(63, -1, -1), -4);
    due(29, x.dayOf(63, 100001, -1), -6);
    due(29, x.dayOf(63, 0, -1), -1);
    due(29, x.dayOf(63, 0, 8), -1);
    due(29, x.dayOf(63, 0, MOST), -1);
    due(29, x.dayOf(63, 0, 6), -9);
    due(29, x.dayOf(0, 0, 0), -9);
    // The greatest needs of a day are 100 whatever comes; what fits beside that goes to early days.
    dueDays(x, 63, 0, 0, 1, 2, 3, 4, 5);
    dueDays(x, 128 | 64 | 1, 100000, 0, -9, -9, -9, -9, -9, 1, 1);
    dueDays(x, 128 | 64 | 32 | 16 | 8 | 4, 100000, -9, -9, 0, 1, 2, 3, 4, 3);
    // A need of 0 goes to the first day; needs that are alike go to days in turn.
    WoodenMains y = needs(0, 50, 0, 50, 10);
    dueDays(y, 31, 50, 0, 0, 0, 1, 2);
    dueDays(y, 31, 60, 0, 0, 0, 1, 2);
    dueDays(y, 8 | 16, 100, -9, -9, -9, 0, 1);
    due(29, y.count(13), 0);
  }

  private static void law() {
    WoodenMains x = new WoodenMains();
    due(30, x.law(-1, 100, 0, 0), -4);
    due(30, x.law(1000, -1, 0, 0), -4);
    due(30, x.law(1000, 0, -1, 0), -4);
    due(30, x.law(1000, 0, 0, -1), -4);
    due(30, x.law(1000, 0, 0, 0), -6);
    due(30, x.law(0, 100, 0, 0), -6);
    due(30, x.law(0, 0, 100, 0), -6);
    due(30, x.law(0, 0, 0, 301), -6);
    due(30, x.law(MOST, MOST, MOST, MOST), -6);
    due(30, x.law(LEAST, LEAST, LEAST, LEAST), -4);
    due(30, x.count(10), 0);
    due(30, x.law(999, 99, 99, 300), 0);
    x.hours(47);
    due(30, x.law(0, 0, 0, 1), 1);
    x.hours(1);
    due(30, x.law(0, 0, 0, 1), -4);
    for (int n = 2; n < 20; n++) due(30, x.law(0, 0, 0, 2), n);
    due(30, x.law(0, 0, 0, 2), -6);
    due(30, x.law(0, 0, 0, 1), -4);
    due(30, x.count(10), 20);
  }

  private static void rate() {
    WoodenMains x = line(1);
    x.house(0, 10, 0, 0, true);
    x.house(0, 499, 9, 0, true);
    due(31, x.rate(2, -1), -1);
    due(31, x.rate(-1, 0), -1);
    due(31, x.rate(0, -1), -4);
    due(31, x.rate(0, LEAST), -4);
    due(31, x.rate(0, 301), -6);
    due(31, x.rate(0, MOST), -6);
    due(31, x.rate(0, 300), 0);
    due(31, x.rate(0, 0), 0);
    x.law(100, 10, 1, 20);
    x.law(200, 20, 2, 10);
    due(31, x.rate(1, 9), 0);
    due(31, x.rate(1, 10), 200 + 180 + 98);
    due(31, x.rate(1, 19), 200 + 180 + 98);
    due(31, x.rate(1, 20), 100 + 90 + 49);
    due(31, x.rate(1, 300), 100 + 90 + 49);
    due(31, x.rate(0, 300), 100 + 1);
    x.law(999, 99, 99, 10);
    due(31, x.rate(1, 10), 999 + 891 + 99 * 49);
    due(31, x.rate(1, 20), 100 + 90 + 49);
    x.law(1, 0, 0, 20);
    due(31, x.rate(1, 20), 1);
    x.hours(1000);
    due(31, x.rate(1, 9), 0);
  }

  private static void houseOf() {
    WoodenMains x = openAtFirst(2, 500);
    x.house(1, 100, 0, 7, true);
    due(32, x.houseOf(1, 4), -1);
    due(32, x.houseOf(-1, 0), -1);
    due(32, x.houseOf(0, 4), -2);
    due(32, x.houseOf(0, -1), -2);
    due(32, x.houseOf(0, MOST), -2);
    due(32, x.houseOf(0, 0), 0);
    due(32, x.houseOf(0, 1), 0);
    due(32, x.houseOf(0, 2), 7);
    due(32, x.houseOf(0, 3), 1);
    x.hours(6);
    due(32, x.houseOf(0, 0), 0);
    due(32, x.houseOf(0, 1), 2);
    x.hours(163);
    due(32, x.houseOf(0, 0), 23);
  }

  private static void streetOf() {
    WoodenMains x = line(2);
    due(33, x.streetOf(2, 7), -1);
    due(33, x.streetOf(-1, 0), -1);
    due(33, x.streetOf(0, 7), -2);
    due(33, x.streetOf(0, -1), -2);
    due(33, x.streetOf(0, LEAST), -2);
    due(33, x.streetOf(0, 0), 0);
    due(33, x.streetOf(0, 1), 0);
    due(33, x.streetOf(0, 2), 1);
    due(33, x.streetOf(0, 3), 0);
    due(33, x.streetOf(0, 4), -9);
    due(33, x.streetOf(1, 4), 0);
    due(33, x.streetOf(0, 5), 0);
    due(33, x.streetOf(0, 6), 0);
    x.house(0, 100, 0, 0, true);
    x.house(0, 200, 5, 0, false);
    x.house(1, 10, 5, 0, false);
    x.end(0, 70);
    x.turn(0, 0, 0, 0, 1);
    x.coal(1);
    x.set(0, 1 + 40 + 30 + 20);
    due(33, x.streetOf(0, 6), 370);
    x.hours(1);
    due(33, x.streetOf(0, 0), 2);
    due(33, x.streetOf(0, 1), 40);
    due(33, x.streetOf(0, 6), 30 + 70 + 180);
    due(33, x.streetOf(1, 6), 10);
    WoodenMains old = new WoodenMains();
    old.street(-1, 50);
    old.street(-1, 9);
    int[] drips = {5, 10, 15, 20, 25, 30, 35, 40};
    for (int fours = 0; fours < 7; fours++) {
      due(33, old.streetOf(0, 2), drips[fours]);
      due(33, old.streetOf(1, 2), 9 * (fours + 1) / 10);
      old.hours(671);
      due(33, old.streetOf(0, 2), drips[fours]);
      old.hours(1);
    }
  }

  private static void count() {
    WoodenMains x = openAtFirst(2, 500);
    due(34, x.count(-1), -9);
    due(34, x.count(20), -9);
    due(34, x.count(LEAST), -9);
    due(34, x.count(MOST), -9);
    x.house(0, 10, 0, 0, false);
    x.end(0, 0);
    x.draw(0, true);
    x.end(1, 50);
    x.law(0, 0, 0, 0);
    x.reading(0, 0, 0, 0);
    x.hours(3);
    int[] all = {3, 2, 1, 999, 2, 60, 20, 500 - 2 - 60 - 40 - 30, 2, 1, 1};
    for (int what = 0; what < all.length; what++) due(34, x.count(what), all[what]);
    due(34, x.count(18), 1);
    due(34, x.count(19), 40);
    for (int i = 0; i < 1; i++) x.lose(4);
    for (int i = 0; i < 2; i++) x.set(3, 0);
    for (int i = 0; i < 3; i++) x.end(0, 0);
    for (int i = 0; i < 4; i++) x.hours(0);
    for (int i = 0; i < 5; i++) x.put(0, 0, 0);
    for (int i = 0; i < 6; i++) x.best(10001);
    x.row(1, 0);
    for (int i = 0; i < 7; i++) x.put(1, 0, 0);
    for (int number = 1; number <= 7; number++) due(34, x.count(10 + number), number);
    x.stand(3, 0);
    x.lead(1, 0);
    due(34, x.count(11), 3);
    x.count(20);
    x.dayOf(1, 0, 1);
    x.streetOf(0, 4);
    int[] refusals = {3, 2, 3, 4, 5, 6, 7};
    for (int number = 1; number <= 7; number++) due(34, x.count(10 + number), refusals[number - 1]);
  }
}
