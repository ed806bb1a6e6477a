/** Edges of promises 29 to 31, and of what Terms tells of mending. */
final class MendingEdges extends Edges {
  static void check() {
    promise(TERMS);
    oneMeetMore();
    bestOfSeveral();
    priceOfOne();
    promise(29);
    best();
    promise(30);
    price();
    promise(31);
    proofs();
    proofsByBits();
    refusedProofs();
  }

  /** Five extras that never leave, three up and two down, on seven stations: 42 meets, each of price 5000. */
  private static SidingLine fiveThatStand() {
    SidingLine x = lineOf(7);
    for (int t = 0; t < 5; t++) x.train(EXTRA, t % 2 * 6, 6 - t % 2 * 6, 8, 0);
    return x;
  }

  /** One that goes up by the table, one without papers that is forced against it: a meet at 0 mends it, one at 1 not. */
  private static SidingLine mendedAtZero() {
    SidingLine x = lineOf(2);
    x.train(REGULAR, 0, 1, 8, 0);
    x.train(EXTRA, 1, 0, 8, 0);
    x.force(1, 5);
    return x;
  }

  private static void oneMeetMore() {
    says("MENDING: one MEET more, of any two TRAINS of contrary WAYS (told as a lesser, a greater number) at any"
        + " STATION, handed to both in minute 0.");
    SidingLine x = twoRegulars();
    fillOrders(x);
    due("with twelve orders there are", x.price(0, 1, 1), 0);
    due("in minute 0 both hold it", x.price(0, 1, 2), 20);
    due("and it is no order", x.all(2), 12);
    due("nor handed", x.delay(), 20);
    due("the day, a price, the day again", x.price(0, 1, 1) + x.delay(), 20);
    due("the day, the best one, the day again", x.best(3) + x.came(1, 0), 40);
    SidingLine y = lineOf(4);
    y.train(REGULAR, 2, 1, 8, 0);
    y.train(REGULAR, 0, 1, 8, 0);
    due("at a station of neither's way", y.price(0, 1, 3), 0);
    due("the lesser one goes down", y.best(0), 0);
    due("the greater one goes up", y.best(1), 1);
    SidingLine z = twoRegulars();
    z.meet(0, 1, 1);
    z.annul(0);
    for (int t = 0; t < 2; t++) {
      z.hand(0, t, 0);
      z.hand(1, t, 0);
    }
    due("one that is annulled is not the one more", z.price(1, 0, 1), 0);
    due("without it", z.delay(), 20);
    SidingLine w = new SidingLine();
    w.train(REGULAR, 0, 2, 8, 0);
    w.train(REGULAR, 1, 0, 8, 20);
    w.train(REGULAR, 1, 0, 8, 40);
    w.meet(0, 2, 1);
    w.hand(0, 0, 0);
    due("one more at a station at which another one is to be met", w.price(0, 1, 1), 30);
  }

  private static void bestOfSeveral() {
    says("BEST: that by which THE DAY has the fewest HEAD ONS (pairs, each once), of several the least DELAY, of several"
        + " the first by the lesser, the greater TRAIN, the STATION.");
    SidingLine x = mendedAtZero();
    due("no head on, more delay", x.price(0, 1, 0), 20);
    due("a head on, less delay", x.price(0, 1, 1), 100005);
    dueRow("fewest head ons", x::best, 0, 1, 0, 20);
    dueRow("least delay", what -> twoRegulars().best(what), 0, 1, 1, 0);
    dueRow("the first of all", what -> fiveThatStand().best(what), 0, 1, 0, 5000);
    SidingLine y = new SidingLine();
    y.train(EXTRA, 2, 0, 8, 0);
    y.train(EXTRA, 2, 0, 8, 0);
    y.train(EXTRA, 0, 2, 8, 0);
    dueRow("the first that are of contrary ways", y::best, 0, 2, 0, 3000);
    pairsOnce();
    laterPairIsBest();
  }

  /** Two works that meet head on there and back, whatever they hold, are one pair. */
  private static void pairsOnce() {
    SidingLine x = lineOf(2);
    x.train(WORK, 0, 1, 8, 0);
    x.train(WORK, 1, 0, 8, 0);
    for (int minute = 0; minute <= 10; minute += 10) {
      x.force(0, minute);
      x.force(1, minute);
    }
    due("one pair", x.best(3), 100000);
    due("at the first station", x.best(2), 0);
  }

  private static void laterPairIsBest() {
    SidingLine x = new SidingLine();
    x.train(EXTRA, 0, 2, 8, 300);
    x.train(REGULAR, 0, 2, 8, 0);
    x.train(REGULAR, 2, 0, 8, 0);
    dueRow("of the second pair", x::best, 1, 2, 1, 1000);
    SidingLine y = new SidingLine();
    y.train(REGULAR, 0, 2, 8, 0);
    y.train(EXTRA, 2, 0, 8, 300);
    y.train(REGULAR, 2, 0, 8, 0);
    dueRow("of the same lesser one with a later one", y::best, 0, 2, 1, 1000);
  }

  private static void priceOfOne() {
    says("PRICE of one: 100000 times HEAD ONS, and DELAY.");
    due("none, none", twoRegulars().price(0, 1, 1), 0);
    due("none, some", twoRegulars().price(0, 1, 0), 20);
    SidingLine x = lineOf(2);
    for (int t = 0; t < 5; t++) x.train(EXTRA, t % 2, 1 - t % 2, 8, 0);
    for (int t = 0; t < 5; t++) x.force(t, 7);
    due("six pairs, 7 each", x.price(0, 1, 0), 600035);
    SidingLine y = lineOf(2);
    for (int t = 0; t < 5; t++) y.train(EXTRA, t % 2, 1 - t % 2, 8, 0);
    for (int t = 0; t < 5; t++) y.force(t, 500);
    due("the most that can be", y.price(0, 1, 0), 605000);
  }

  private static void best() {
    says("Of BEST: 0 the lesser TRAIN, 1 the greater one, 2 the STATION, 3 its PRICE.");
    SidingLine x = lineOf(7);
    for (int t = 0; t < 3; t++) x.train(EXTRA, 0, 6, 8, 300);
    x.train(REGULAR, 4, 6, 8, 4);
    x.train(REGULAR, 6, 4, 8, 0);
    dueRow("the greatest pair", x::best, 3, 4, 5, 3004);
    due("one station further on the greater one waits longer", x.price(3, 4, 6), 3024);
    due("one station less the lesser one waits", x.price(3, 4, 4), 3016);
    due("two stations less they meet head on", x.price(3, 4, 3), 103000);
    says("NONE: there are no two TRAINS of contrary WAYS.");
    SidingLine y = new SidingLine();
    due("no train", y.best(0), NONE);
    y.train(EXTRA, 0, 2, 8, 0);
    due("one train", y.best(0), NONE);
    y.train(MAIL, 0, 1, 8, 0);
    due("two of one way", y.best(3), NONE);
    due("ahead of BEYOND", y.best(4), NONE);
    due("ahead of BEYOND, -1", y.best(-1), NONE);
    y.train(EXTRA, 1, 0, 8, 0);
    due("now there are", y.best(1), 2);
    y.undo();
    due("undone", y.best(1), NONE);
    says("BEYOND: another what.");
    beyondOutside("what", 0, 3, what -> twoRegulars().best(what));
  }

  private static void price() {
    says("PRICE of one MEET more.");
    int[] want = {20, 0, 20};
    for (int s = 0; s < 3; s++) {
      due("at " + s, twoRegulars().price(0, 1, s), want[s]);
      due("the greater one first, at " + s, twoRegulars().price(1, 0, s), want[s]);
    }
    says("BEYOND: no such TRAINS, or STATION.");
    beyondOutside("a", 0, 1, v -> twoRegulars().price(v, 1, 0));
    beyondOutside("b", 0, 1, v -> twoRegulars().price(0, v, 0));
    beyondOutside("station", 0, 2, v -> twoRegulars().price(0, 1, v));
    due("no trains at all", new SidingLine().price(0, 1, 0), BEYOND);
    due("ahead of SIZE", twoRegulars().price(1, 1, 3), BEYOND);
    says("SIZE: they are of one WAY.");
    SidingLine x = fiveThatStand();
    for (int a = 0; a < 5; a++) {
      for (int b = 0; b < 5; b++) due(a + " and " + b, x.price(a, b, 0), (a - b) % 2 == 0 ? SIZE : 5000);
    }
  }

  private static void proofs() {
    says("Whether a sheet proves that a MEET is BEST: it tells PRICES of all MEETS that can be, in their order (by the"
        + " lesser, the greater TRAIN, the STATION), each as it is (by as many of its lowest bits as the sheet's numbers"
        + " have): -1 (no finding); if it has not just so many numbers: how many it must have; else the place of the"
        + " first number that is wrong.");
    SidingLine x = fiveThatStand();
    for (int n : new int[] {0, 1, 41, 43, 60}) {
      x.sheet(0, 32, n);
      due(n + " numbers", x.proves(0, 1, 0, 0), 42);
    }
    x.sheet(0, 32, 42);
    for (int i = 0; i < 42; i++) {
      due("wrong at " + i, x.proves(0, 1, 0, 0), i);
      x.put(0, i, 5000);
    }
    due("proved", x.proves(0, 1, 0, 0), -1);
    due("no finding", x.all(4), 0);
    x.put(0, 41, 4999);
    due("the last one is wrong", x.proves(0, 1, 0, 0), 41);
    x.put(0, 0, 5001);
    due("the first of two is told", x.proves(0, 1, 0, 0), 0);
    SidingLine y = mendedAtZero();
    y.sheet(3, 32, 2);
    y.put(3, 0, 20);
    y.put(3, 1, 100005);
    due("of two stations", y.proves(0, 1, 0, 3), -1);
    y.stations(3);
    due("of three there is one more", y.proves(0, 1, 0, 3), 3);
    y.undo();
    y.section(0, 11);
    due("the line changed, so they are wrong", y.proves(0, 1, 0, 3), 0);
  }

  private static void proofsByBits() {
    SidingLine x = mendedAtZero();
    int[][] sheets = {{8, 20, 100005}, {16, 20, 100005}, {32, 20, 100005}, {8, 20 + 256, 0xA5}, {16, 20 - 65536, 34469}};
    for (int[] row : sheets) {
      x.sheet(0, row[0], 2);
      x.put(0, 0, row[1]);
      x.put(0, 1, row[2]);
      due(row[0] + " bits of " + row[1] + ", " + row[2], x.proves(0, 1, 0, 0), -1);
    }
    int[][] wrong = {{8, 21, 0xA5, 0}, {8, 20, 0xA6, 1}, {16, 20 + 256, 34469, 0}, {16, 20, 0xA5, 1},
      {32, 20 + 65536, 100005, 0}, {32, 20, 34469, 1}};
    for (int[] row : wrong) {
      x.sheet(0, row[0], 2);
      x.put(0, 0, row[1]);
      x.put(0, 1, row[2]);
      due(row[0] + " bits of " + row[1] + ", " + row[2], x.proves(0, 1, 0, 0), row[3]);
    }
  }

  /** Two regulars, and a sheet of three numbers. */
  private static SidingLine withSheet() {
    SidingLine x = twoRegulars();
    x.sheet(0, 8, 3);
    return x;
  }

  private static void refusedProofs() {
    says("BEYOND: no such TRAINS, STATION, or sheet.");
    beyondOutside("a", 0, 1, v -> withSheet().proves(v, 1, 1, 0));
    beyondOutside("b", 0, 1, v -> withSheet().proves(0, v, 1, 0));
    beyondOutside("station", 0, 2, v -> withSheet().proves(0, 1, v, 0));
    beyondOutside("sheet", 0, 3, v -> withSheet().proves(0, 1, 1, v));
    due("no trains at all", new SidingLine().proves(0, 1, 0, 0), BEYOND);
    says("SIZE: they are of one WAY.");
    due("itself", withSheet().proves(1, 1, 1, 0), SIZE);
    due("ahead of MISSING", withSheet().proves(1, 1, 1, 3), SIZE);
    due("two of five", fiveThatStand().proves(1, 3, 6, 0), SIZE);
    says("MISSING.");
    for (int s = 1; s < 4; s++) due("sheet " + s, withSheet().proves(0, 1, 1, s), MISSING);
    due("ahead of KIND", withSheet().proves(0, 1, 0, 1), MISSING);
    SidingLine x = withSheet();
    x.sheet(0, 0, 3);
    due("missing again", x.proves(0, 1, 1, 0), MISSING);
    x.sheet(0, 8, 0);
    due("no numbers, but not missing", x.proves(0, 1, 1, 0), 3);
    says("KIND: it is not BEST.");
    due("at 0", withSheet().proves(0, 1, 0, 0), KIND);
    due("at 2", withSheet().proves(0, 1, 2, 0), KIND);
    SidingLine y = fiveThatStand();
    y.sheet(0, 8, 0);
    due("just as good, but not the first: station", y.proves(0, 1, 1, 0), KIND);
    due("just as good, but not the first: greater train", y.proves(0, 3, 0, 0), KIND);
    due("just as good, but not the first: lesser train", y.proves(1, 2, 0, 0), KIND);
    due("the first", y.proves(0, 1, 0, 0), 42);
    due("the first, the greater train first", y.proves(1, 0, 0, 0), 42);
  }
}
