/** Each promise of the document by hand: ordinary calls, the edges that it names, and wrong inputs. */
public final class PromisesTest {
  private static final int BEYOND = -100001, MISSING = -100002, SIZE = -100003, KIND = -100004, FULL = -100005,
      NONE = -100006, TAKEN = -100007;
  private static final int EXTRA = 0, REGULAR = 1, MAIL = 2, WORK = 3;

  private static int promise = 0;
  private static int asked = 0;
  private static int wrong = 0;

  private static void due(String what, int got, int want) {
    asked++;
    if (got != want) {
      wrong++;
      System.out.println("promise " + promise + ": " + what + " answered " + got + ", due is " + want);
    }
  }

  public static void main(String[] args) {
    theLine();
    theOrders();
    theDay();
    theMending();
    theSheets();
    System.out.println(wrong == 0 ? asked + " answers are as due" : wrong + " answers are not as due");
    if (wrong != 0) System.exit(1);
  }

  private static void theLine() {
    promise = 1;
    newObject();
    promise = 2;
    stations();
    promise = 3;
    sidings();
    promise = 4;
    sections();
    promise = 5;
    trains();
    promise = 6;
    as();
    promise = 7;
    of();
    promise = 8;
    times();
    promise = 9;
    dues();
    promise = 10;
    over();
  }

  private static void theOrders() {
    promise = 11;
    meets();
    promise = 12;
    lates();
    promise = 13;
    waits();
    promise = 14;
    runs();
    promise = 15;
    annuls();
    promise = 16;
    handings();
    promise = 17;
    holdings();
    promise = 18;
    ordersTold();
    promise = 19;
    forces();
  }

  private static void theDay() {
    promise = 20;
    where();
    promise = 21;
    came();
    promise = 22;
    left();
    promise = 23;
    whyRuleOne();
    whyRuleTwo();
    whyRuleThree();
    whyRuleFour();
    whyRuleFourOfWorks();
    whyRuleFive();
    whyForced();
    promise = 24;
    heads();
    promise = 25;
    headTold();
    promise = 26;
    causes();
    promise = 27;
    fouls();
    promise = 28;
    delays();
  }

  private static void theMending() {
    promise = 29;
    best();
    bestOfSeveral();
    promise = 30;
    prices();
    promise = 31;
    proofs();
  }

  private static void theSheets() {
    promise = 32;
    sheets();
    promise = 33;
    puts();
    promise = 34;
    copies();
    promise = 35;
    grades();
    promise = 36;
    undoOfEachAct();
    undoCountsEachAct();
    undoKeepsSixteen();
    promise = 37;
    all();
  }

  /** Two regulars, each from an end of three stations to the other, both in minute 0. */
  private static SidingLine twoRegulars() {
    SidingLine x = new SidingLine();
    x.train(REGULAR, 0, 2, 8, 0);
    x.train(REGULAR, 2, 0, 8, 0);
    return x;
  }

  private static void give(SidingLine x, int order, int train, int minute) {
    x.hand(order, train, minute);
  }

  // ---- the line

  private static void newObject() {
    SidingLine x = new SidingLine();
    for (int what = 0; what <= 4; what++) due("all(" + what + ")", x.all(what), what == 0 ? 3 : 0);
    due("undo", x.undo(), NONE);
    due("heads", x.heads(), 0);
    due("fouls", x.fouls(), 0);
    due("delay", x.delay(), 0);
    due("no head", x.head(0), NONE);
    due("no cause", x.cause(), NONE);
    due("no best", x.best(0), NONE);
    for (int s = 0; s < 4; s++) due("sheet " + s, x.put(s, 0, 0), MISSING);
    for (int s = 0; s < 3; s++) due("siding " + s, x.siding(s, 10), 10);
    for (int i = 0; i < 2; i++) due("section " + i, x.section(i, 10), 10);
    due("no train", x.of(0, 0), BEYOND);
    due("no order", x.order(0, 0), BEYOND);
  }

  private static void stations() {
    SidingLine x = new SidingLine();
    due("1", x.stations(1), BEYOND);
    due("8", x.stations(8), BEYOND);
    due("-7", x.stations(-7), BEYOND);
    due("2", x.stations(2), 3);
    due("there are 2", x.siding(2, 5), BEYOND);
    due("7", x.stations(7), 2);
    due("siding of a new one", x.siding(6, 5), 10);
    due("section of a new one", x.section(5, 5), 10);
    due("7 again", x.stations(7), 7);
    x.train(EXTRA, 4, 1, 8, 0);
    due("FROM is taken", x.stations(4), TAKEN);
    due("BEYOND is asked first", x.stations(1), BEYOND);
    due("FROM stays", x.stations(5), 7);
    x.train(EXTRA, 0, 4, 8, 0);
    due("TO is taken", x.stations(4), TAKEN);
    due("nothing changed", x.all(0), 5);
    SidingLine w = new SidingLine();
    w.train(EXTRA, 0, 2, 8, 0);
    due("only TO is taken", w.stations(2), TAKEN);
    w.undo();
    w.train(EXTRA, 0, 1, 8, 0);
    w.wait(0, 2, 5);
    due("the first order has it", w.stations(2), TAKEN);

    SidingLine y = new SidingLine();
    y.stations(7);
    y.train(EXTRA, 0, 1, 8, 0);
    y.train(EXTRA, 1, 0, 8, 0);
    y.late(0, 100);
    y.run(0, 100);
    y.annul(1);
    y.meet(0, 1, 4);
    due("MEET has 4", y.stations(4), TAKEN);
    due("MEET may stay", y.stations(5), 7);
    y.wait(0, 3, 5);
    y.undo();
    y.undo();
    y.undo();
    y.wait(0, 3, 5);
    due("WAIT has 3", y.stations(3), TAKEN);
    due("WAIT may stay", y.stations(4), 7);
  }

  private static void sidings() {
    SidingLine x = new SidingLine();
    due("v -1", x.siding(0, -1), BEYOND);
    due("v 31", x.siding(0, 31), BEYOND);
    due("station -1", x.siding(-1, 5), BEYOND);
    due("station 3", x.siding(3, 5), BEYOND);
    due("v 0", x.siding(2, 0), 10);
    due("v 30", x.siding(2, 30), 0);
    due("what it was", x.siding(2, 1), 30);
    due("another one stays", x.siding(1, 1), 10);
  }

  private static void sections() {
    SidingLine x = new SidingLine();
    due("v 0", x.section(0, 0), BEYOND);
    due("v 31", x.section(0, 31), BEYOND);
    due("section -1", x.section(-1, 5), BEYOND);
    due("section 2", x.section(2, 5), BEYOND);
    due("v 1", x.section(1, 1), 10);
    due("v 30", x.section(1, 30), 1);
    due("what it was", x.section(1, 10), 30);
    due("another one stays", x.section(0, 1), 10);
  }

  private static void trains() {
    SidingLine x = new SidingLine();
    due("kind -1", x.train(-1, 0, 2, 8, 0), BEYOND);
    due("kind 4", x.train(4, 0, 2, 8, 0), BEYOND);
    due("from -1", x.train(1, -1, 2, 8, 0), BEYOND);
    due("from 3", x.train(1, 3, 2, 8, 0), BEYOND);
    due("to -1", x.train(1, 0, -1, 8, 0), BEYOND);
    due("to 3", x.train(1, 0, 3, 8, 0), BEYOND);
    due("length 0", x.train(1, 0, 2, 0, 0), BEYOND);
    due("length 31", x.train(1, 0, 2, 31, 0), BEYOND);
    due("time -1", x.train(1, 0, 2, 8, -1), BEYOND);
    due("time 301", x.train(1, 0, 2, 8, 301), BEYOND);
    due("FROM is TO", x.train(1, 1, 1, 8, 0), SIZE);
    due("BEYOND ahead of SIZE", x.train(1, 1, 1, 8, 301), BEYOND);
    due("none was made", x.all(1), 0);
    due("least", x.train(0, 0, 1, 1, 0), 0);
    due("greatest", x.train(3, 2, 0, 30, 300), 1);
    due("third", x.train(1, 0, 2, 8, 0), 2);
    due("fourth", x.train(2, 0, 2, 8, 0), 3);
    due("fifth", x.train(2, 0, 2, 8, 0), 4);
    due("sixth", x.train(2, 0, 2, 8, 0), FULL);
    due("SIZE ahead of FULL", x.train(2, 0, 0, 8, 0), SIZE);
    due("BEYOND ahead of FULL", x.train(9, 0, 0, 8, 0), BEYOND);
    due("five", x.all(1), 5);
  }

  private static void as() {
    SidingLine x = new SidingLine();
    for (int kind = 0; kind < 4; kind++) x.train(kind, 0, 2, 8, 0);
    int[][] want = {
      {0, KIND, KIND, KIND}, {1, 1, KIND, KIND}, {2, 2, 2, KIND}, {3, KIND, KIND, 3},
    };
    for (int t = 0; t < 4; t++) {
      for (int kind = 0; kind < 4; kind++) due(t + " as " + kind, x.as(t, kind), want[t][kind]);
    }
    due("no such train", x.as(4, 0), BEYOND);
    due("train -1", x.as(-1, 0), BEYOND);
    due("kind 4", x.as(0, 4), BEYOND);
    due("kind -1", x.as(0, -1), BEYOND);
  }

  private static void of() {
    SidingLine x = new SidingLine();
    x.train(WORK, 0, 2, 7, 33);
    x.train(MAIL, 2, 1, 9, 44);
    int[][] want = {{3, 0, 2, 7, 33, 0}, {2, 2, 1, 9, 44, 1}};
    for (int t = 0; t < 2; t++) {
      for (int what = 0; what < 6; what++) due(t + " what " + what, x.of(t, what), want[t][what]);
    }
    due("what 6", x.of(0, 6), BEYOND);
    due("what -1", x.of(0, -1), BEYOND);
    due("train 2", x.of(2, 0), BEYOND);
    due("train -1", x.of(-1, 0), BEYOND);
  }

  private static void times() {
    SidingLine x = twoRegulars();
    due("v -1", x.time(0, -1), BEYOND);
    due("v 301", x.time(0, 301), BEYOND);
    due("train 2", x.time(2, 0), BEYOND);
    due("train -1", x.time(-1, 0), BEYOND);
    due("v 300", x.time(0, 300), 0);
    due("what it was", x.time(0, 20), 300);
    due("it counts", x.due(0, 2), 40);
    due("another one stays", x.of(1, 4), 0);
    due("v 0", x.time(0, 0), 20);
  }

  private static void dues() {
    SidingLine x = new SidingLine();
    x.stations(5);
    for (int i = 0; i < 4; i++) x.section(i, i + 1);
    x.train(REGULAR, 1, 3, 8, 100);
    x.train(WORK, 4, 1, 8, 50);
    due("at FROM", x.due(0, 1), 100);
    due("on its way", x.due(0, 2), 102);
    due("at TO", x.due(0, 3), 105);
    due("ahead of FROM", x.due(0, 0), NONE);
    due("behind TO", x.due(0, 4), NONE);
    due("way 1 at FROM", x.due(1, 4), 50);
    due("way 1 on its way", x.due(1, 2), 57);
    due("way 1 at TO", x.due(1, 1), 59);
    due("way 1 behind TO", x.due(1, 0), NONE);
    due("station 5", x.due(0, 5), BEYOND);
    due("station -1", x.due(0, -1), BEYOND);
    due("train 2", x.due(2, 0), BEYOND);
    due("train -1", x.due(-1, 0), BEYOND);
  }

  private static void over() {
    // rows: the kind of the one that goes up, columns: of the one that goes down; whether the first is superior
    int[][] up = {
      {1, 0, 0, 1}, {1, 1, 0, 1}, {1, 1, 1, 1}, {1, 0, 0, 1},
    };
    for (int a = 0; a < 4; a++) {
      for (int b = 0; b < 4; b++) {
        SidingLine x = new SidingLine();
        x.train(a, 0, 1, 8, 0);
        x.train(b, 2, 1, 8, 0);
        due(a + " up over " + b, x.over(0, 1), up[a][b]);
        due(b + " down over " + a, x.over(1, 0), 1 - up[a][b]);
      }
    }
    SidingLine x = new SidingLine();
    x.train(MAIL, 0, 1, 8, 0);
    x.train(EXTRA, 0, 2, 8, 0);
    due("of one way", x.over(0, 1), SIZE);
    due("itself", x.over(0, 0), SIZE);
    due("no such train", x.over(2, 0), BEYOND);
    due("no such other", x.over(0, 2), BEYOND);
    due("train -1", x.over(-1, 0), BEYOND);
  }

  // ---- orders

  private static void fillOrders(SidingLine x) {
    for (int i = x.all(2); i < 12; i++) x.run(0, 0);
  }

  private static void meets() {
    SidingLine x = twoRegulars();
    x.train(EXTRA, 0, 1, 8, 0);
    due("first", x.meet(0, 1, 0), 0);
    due("second, other way about", x.meet(1, 2, 2), 1);
    due("a 3", x.meet(3, 1, 0), BEYOND);
    due("b 3", x.meet(1, 3, 0), BEYOND);
    due("a -1", x.meet(-1, 1, 0), BEYOND);
    due("station 3", x.meet(0, 1, 3), BEYOND);
    due("station -1", x.meet(0, 1, -1), BEYOND);
    due("of one way", x.meet(0, 2, 0), SIZE);
    due("BEYOND ahead of SIZE", x.meet(0, 2, 3), BEYOND);
    fillOrders(x);
    due("full", x.meet(0, 1, 0), FULL);
    due("SIZE ahead of FULL", x.meet(0, 2, 0), SIZE);
    due("BEYOND ahead of FULL", x.meet(0, 1, 3), BEYOND);
    due("twelve", x.all(2), 12);
  }

  private static void lates() {
    SidingLine x = twoRegulars();
    due("v 0", x.late(0, 0), BEYOND);
    due("v 121", x.late(0, 121), BEYOND);
    due("a 2", x.late(2, 5), BEYOND);
    due("a -1", x.late(-1, 5), BEYOND);
    due("v 1", x.late(0, 1), 0);
    due("v 120", x.late(1, 120), 1);
    fillOrders(x);
    due("full", x.late(0, 1), FULL);
    due("BEYOND ahead of FULL", x.late(0, 0), BEYOND);
  }

  private static void waits() {
    SidingLine x = twoRegulars();
    due("v -1", x.wait(0, 0, -1), BEYOND);
    due("v 401", x.wait(0, 0, 401), BEYOND);
    due("station 3", x.wait(0, 3, 5), BEYOND);
    due("station -1", x.wait(0, -1, 5), BEYOND);
    due("a 2", x.wait(2, 0, 5), BEYOND);
    due("a -1", x.wait(-1, 0, 5), BEYOND);
    due("v 0", x.wait(0, 0, 0), 0);
    due("v 400", x.wait(1, 2, 400), 1);
    fillOrders(x);
    due("full", x.wait(0, 0, 0), FULL);
    due("BEYOND ahead of FULL", x.wait(0, 0, 401), BEYOND);
  }

  private static void runs() {
    SidingLine x = twoRegulars();
    due("v -1", x.run(0, -1), BEYOND);
    due("v 401", x.run(0, 401), BEYOND);
    due("a 2", x.run(2, 5), BEYOND);
    due("a -1", x.run(-1, 5), BEYOND);
    due("v 0", x.run(0, 0), 0);
    due("v 400", x.run(1, 400), 1);
    fillOrders(x);
    due("full", x.run(0, 0), FULL);
    due("BEYOND ahead of FULL", x.run(0, 401), BEYOND);
  }

  private static void annuls() {
    SidingLine x = twoRegulars();
    due("no order yet", x.annul(0), BEYOND);
    x.run(0, 0);
    due("first", x.annul(0), 1);
    due("of an annul", x.annul(1), 2);
    due("once more", x.annul(0), 3);
    due("itself", x.annul(4), BEYOND);
    due("-1", x.annul(-1), BEYOND);
    fillOrders(x);
    due("full", x.annul(0), FULL);
    due("BEYOND ahead of FULL", x.annul(12), BEYOND);
  }

  private static void handings() {
    SidingLine x = twoRegulars();
    x.run(0, 0);
    due("order 1", x.hand(1, 0, 0), BEYOND);
    due("order -1", x.hand(-1, 0, 0), BEYOND);
    due("train 2", x.hand(0, 2, 0), BEYOND);
    due("train -1", x.hand(0, -1, 0), BEYOND);
    due("minute -1", x.hand(0, 0, -1), BEYOND);
    due("minute 401", x.hand(0, 0, 401), BEYOND);
    due("first", x.hand(0, 0, 400), -1);
    due("earlier", x.hand(0, 0, 30), 400);
    due("later", x.hand(0, 0, 50), 30);
    due("the earlier one counts", x.hand(0, 0, 0), 30);
    due("0 is a minute", x.hand(0, 0, 9), 0);
    due("to another one", x.hand(0, 1, 7), -1);
    due("no finding in these", x.all(4), 6);
  }

  private static void holdings() {
    SidingLine x = twoRegulars();
    x.run(0, 0);
    x.annul(0);
    x.annul(1);
    x.annul(2);
    give(x, 0, 0, 10);
    due("minute 0", x.holds(0, 0, 0), 0);
    due("ahead", x.holds(0, 0, 9), 0);
    due("in that", x.holds(0, 0, 10), 1);
    due("on", x.holds(0, 0, 500), 1);
    due("not handed", x.holds(1, 0, 500), 0);
    give(x, 1, 1, 0);
    due("another one's annul", x.holds(0, 0, 10), 1);
    give(x, 1, 0, 20);
    due("annul is held", x.holds(0, 1, 20), 1);
    due("ahead of the annul", x.holds(0, 0, 19), 1);
    due("annulled", x.holds(0, 0, 20), 0);
    give(x, 2, 0, 30);
    due("still annulled", x.holds(0, 0, 29), 0);
    due("annul annulled", x.holds(0, 1, 30), 0);
    due("held again", x.holds(0, 0, 30), 1);
    give(x, 3, 0, 40);
    due("three deep", x.holds(0, 2, 40), 0);
    due("annul again", x.holds(0, 1, 40), 1);
    due("annulled again", x.holds(0, 0, 40), 0);
    due("train 2", x.holds(2, 0, 0), BEYOND);
    due("train -1", x.holds(-1, 0, 0), BEYOND);
    due("order 4", x.holds(0, 4, 0), BEYOND);
    due("order -1", x.holds(0, -1, 0), BEYOND);
    due("minute 501", x.holds(0, 0, 501), BEYOND);
    due("minute -1", x.holds(0, 0, -1), BEYOND);
    x.annul(0);
    give(x, 4, 0, 35);
    due("a second annul", x.holds(0, 0, 35), 0);
    due("but not ahead of it", x.holds(0, 0, 34), 1);
  }

  private static void ordersTold() {
    SidingLine x = twoRegulars();
    x.meet(1, 0, 2);
    x.late(1, 33);
    x.wait(1, 2, 44);
    x.run(1, 55);
    x.annul(2);
    give(x, 0, 1, 400);
    give(x, 1, 0, 0);
    give(x, 1, 1, 0);
    int[][] want = {
      {0, 1, 0, 2, 0, 2}, {1, 1, -1, -1, 33, 3}, {2, 1, -1, 2, 44, 0}, {3, 1, -1, -1, 55, 0}, {4, 2, -1, -1, 0, 0},
    };
    for (int k = 0; k < 5; k++) {
      for (int what = 0; what < 6; what++) due(k + " what " + what, x.order(k, what), want[k][what]);
    }
    due("no finding in these", x.all(4), 0);
    due("what 6", x.order(0, 6), BEYOND);
    due("what -1", x.order(0, -1), BEYOND);
    due("order 5", x.order(5, 0), BEYOND);
    due("order -1", x.order(-1, 0), BEYOND);
  }

  private static void forces() {
    SidingLine x = twoRegulars();
    due("train 2", x.force(2, 0), BEYOND);
    due("train -1", x.force(-1, 0), BEYOND);
    due("minute -1", x.force(0, -1), BEYOND);
    due("minute 501", x.force(0, 501), BEYOND);
    due("minute 500", x.force(0, 500), 1);
    due("minute 0", x.force(1, 0), 2);
    for (int i = 3; i <= 6; i++) due("number " + i, x.force(1, i), i);
    due("full", x.force(1, 7), FULL);
    due("BEYOND ahead of FULL", x.force(1, 501), BEYOND);
    due("told", x.all(3), 6);
    due("it leaves", x.left(1, 2), 0);
  }

  // ---- the day

  private static void where() {
    SidingLine x = new SidingLine();
    x.section(1, 7);
    x.train(REGULAR, 0, 2, 8, 5);
    x.train(WORK, 2, 1, 8, 300);
    due("minute 0", x.where(0, 0), 200);
    due("not yet", x.where(0, 4), 200);
    due("leaves in its minute", x.where(0, 5), 100);
    due("until it is there", x.where(0, 14), 100);
    due("goes on at once", x.where(0, 15), 101);
    due("second section", x.where(0, 21), 101);
    due("off", x.where(0, 22), 300);
    due("off for good", x.where(0, 500), 300);
    due("a work ahead of its time", x.where(1, 299), 200);
    due("without papers", x.where(1, 300), 2);
    due("to the end", x.where(1, 500), 2);
    x.run(1, 0);
    give(x, 0, 1, 400);
    due("it has to have it", x.where(1, 399), 2);
    due("under way", x.where(1, 400), 101);
    due("still", x.where(1, 406), 101);
    due("turns at once", x.where(1, 407), 101);
    due("on its way back", x.where(1, 413), 101);
    due("off where it came from", x.where(1, 414), 300);
    x.wait(1, 1, 400);
    give(x, 1, 1, 0);
    x.time(1, 290);
    give(x, 0, 1, 0);
    due("it stands where it turns", x.where(1, 399), 1);
    due("and goes back", x.where(1, 400), 101);
    due("minute -1", x.where(0, -1), BEYOND);
    due("minute 501", x.where(0, 501), BEYOND);
    due("train 2", x.where(2, 0), BEYOND);
    due("train -1", x.where(-1, 0), BEYOND);
  }

  private static void came() {
    SidingLine x = new SidingLine();
    x.stations(4);
    x.train(WORK, 0, 2, 8, 20);
    due("its time", x.came(0, 0), 20);
    due("it did not", x.came(0, 1), NONE);
    x.run(0, 30);
    give(x, 0, 0, 0);
    due("first", x.came(0, 1), 40);
    due("TO", x.came(0, 2), 50);
    due("FROM stays its time", x.came(0, 0), 20);
    due("not on its way", x.came(0, 3), NONE);
    due("station 4", x.came(0, 4), BEYOND);
    due("station -1", x.came(0, -1), BEYOND);
    due("train 1", x.came(1, 0), BEYOND);
    due("train -1", x.came(-1, 0), BEYOND);
  }

  private static void left() {
    SidingLine x = new SidingLine();
    x.stations(4);
    x.train(WORK, 0, 2, 8, 20);
    due("it did not", x.left(0, 0), NONE);
    x.run(0, 30);
    give(x, 0, 0, 0);
    due("FROM", x.left(0, 0), 30);
    due("first", x.left(0, 1), 40);
    due("where it turns", x.left(0, 2), 50);
    due("not on its way", x.left(0, 3), NONE);
    x.train(REGULAR, 3, 2, 8, 0);
    due("one leaves", x.left(1, 3), 0);
    due("TO is not left", x.left(1, 2), NONE);
    due("station 4", x.left(0, 4), BEYOND);
    due("station -1", x.left(0, -1), BEYOND);
    due("train 2", x.left(2, 0), BEYOND);
    due("train -1", x.left(-1, 0), BEYOND);
  }

  private static void whyRuleOne() {
    SidingLine x = new SidingLine();
    x.train(REGULAR, 0, 2, 8, 7);
    due("not there yet", x.why(0, 6), NONE);
    due("due", x.why(0, 7), 0);
    due("under way", x.why(0, 8), NONE);
    due("due at the next one", x.why(0, 17), 0);
    due("off", x.why(0, 27), NONE);
    x.late(0, 5);
    x.late(0, 3);
    give(x, 0, 0, 10);
    due("late", x.why(0, 17), 1);
    due("still late", x.why(0, 21), 1);
    due("late enough", x.why(0, 22), 0);
    give(x, 1, 0, 20);
    due("lates together", x.why(0, 24), 1);
    due("lates together, enough", x.why(0, 25), 0);
    x.train(MAIL, 0, 2, 8, 50);
    x.late(0, 9);
    give(x, 2, 1, 0);
    due("another one's late", x.why(1, 50), 0);
    x.train(EXTRA, 0, 2, 8, 100);
    due("no papers", x.why(2, 100), 1);
    x.run(2, 120);
    x.run(1, 100);
    give(x, 3, 1, 0);
    give(x, 4, 2, 0);
    due("papers of others", x.why(2, 300), 1);
    give(x, 3, 2, 110);
    due("from a later minute on", x.why(2, 119), 1);
    due("from that minute on", x.why(2, 120), 0);
    x.annul(3);
    give(x, 5, 2, 115);
    due("annulled", x.why(2, 120), 1);
    x.undo();
    x.time(2, 0);
    give(x, 5, 2, 125);
    due("it leaves, then the run is annulled", x.left(2, 0), 120);
    due("so it stands at the next one", x.where(2, 500), 1);
    SidingLine y = new SidingLine();
    y.train(REGULAR, 0, 2, 8, 0);
    due("a regular needs no run", y.why(0, 0), 0);
    y.undo();
    y.train(EXTRA, 0, 2, 8, 0);
    due("an extra in its place does", y.why(0, 0), 1);
    due("minute -1", x.why(0, -1), BEYOND);
    due("minute 501", x.why(0, 501), BEYOND);
    due("train 3", x.why(3, 0), BEYOND);
    due("train -1", x.why(-1, 0), BEYOND);
  }

  private static void whyRuleTwo() {
    SidingLine x = new SidingLine();
    x.train(REGULAR, 0, 2, 8, 0);
    x.wait(0, 1, 30);
    x.wait(0, 1, 20);
    give(x, 1, 0, 0);
    due("until 20", x.why(0, 19), 2);
    due("20", x.why(0, 20), 0);
    give(x, 0, 0, 15);
    due("until 30", x.why(0, 29), 2);
    due("30", x.why(0, 30), 0);
    due("at another station", x.why(0, 0), 0);
    x.late(0, 15);
    give(x, 2, 0, 9);
    due("(1) is told first", x.why(0, 24), 1);
    due("then (2)", x.why(0, 25), 2);
    x.annul(0);
    give(x, 3, 0, 28);
    due("annulled", x.why(0, 28), 0);
    x.train(REGULAR, 0, 2, 8, 100);
    x.wait(0, 0, 200);
    give(x, 4, 1, 0);
    due("another one's wait", x.why(1, 100), 0);
  }

  private static void whyRuleThree() {
    SidingLine x = twoRegulars();
    x.meet(1, 0, 1);
    give(x, 0, 0, 0);
    due("it waits for it", x.why(0, 10), 3);
    due("for long", x.why(0, 500), 3);
    give(x, 0, 1, 50);
    due("until it comes", x.why(0, 59), 3);
    due("it is there", x.why(0, 60), 0);
    due("the other was there", x.why(1, 60), 0);
    x.wait(0, 1, 40);
    give(x, 1, 0, 0);
    due("(2) is told first", x.why(0, 39), 2);
    due("then (3)", x.why(0, 40), 3);

    SidingLine y = new SidingLine();
    y.stations(4);
    y.train(MAIL, 0, 1, 8, 0);
    y.train(REGULAR, 3, 1, 8, 0);
    y.meet(0, 1, 2);
    give(y, 0, 1, 0);
    due("it goes there", y.why(1, 0), 0);
    due("the other one went off elsewhere", y.why(1, 10), 0);
    y.time(0, 5);
    due("until it is off", y.why(1, 14), 3);
    due("now it is off", y.why(1, 15), 0);

    SidingLine z = new SidingLine();
    z.train(WORK, 0, 2, 8, 0);
    z.run(0, 0);
    give(z, 0, 0, 0);
    z.train(MAIL, 2, 0, 8, 60);
    z.meet(0, 1, 1);
    give(z, 1, 1, 0);
    due("a work was there", z.why(1, 70), 0);
    due("it went off", z.where(0, 40), 300);
  }

  private static void whyRuleFour() {
    SidingLine x = new SidingLine();
    x.train(EXTRA, 0, 2, 8, 35);
    x.train(MAIL, 2, 0, 8, 40);
    x.run(0, 0);
    give(x, 0, 0, 0);
    due("5 minutes ahead of it", x.why(0, 35), 0);
    x.time(0, 36);
    due("4 minutes ahead of it", x.why(0, 36), 4);
    due("until it is there", x.why(0, 59), 4);
    due("it is off there", x.why(0, 60), 0);
    x.late(1, 1);
    give(x, 1, 1, 0);
    due("its late, that only it knows", x.why(0, 36), 4);
    give(x, 1, 0, 0);
    due("its late, that this one knows", x.why(0, 36), 0);
    x.undo();
    x.meet(0, 1, 0);
    x.meet(0, 1, 1);
    x.meet(1, 0, 2);
    give(x, 3, 0, 37);
    due("no meet yet", x.why(0, 36), 4);
    due("a meet at the next one", x.why(0, 37), 0);
    x.undo();
    give(x, 4, 0, 38);
    due("a meet further on", x.why(0, 38), 0);
    x.undo();
    give(x, 2, 0, 0);
    due("a meet here", x.why(0, 36), 3);

    SidingLine y = new SidingLine();
    y.stations(4);
    y.train(EXTRA, 0, 3, 8, 0);
    y.run(0, 0);
    give(y, 0, 0, 0);
    y.train(EXTRA, 3, 1, 8, 300);
    due("inferior", y.why(0, 0), 0);
    y.undo();
    y.train(MAIL, 3, 1, 8, 300);
    due("section not on its way", y.why(0, 0), 0);
    y.undo();
    y.train(MAIL, 1, 0, 8, 11);
    y.force(0, 0);
    due("section that it leaves behind", y.why(0, 10), 0);
    y.undo();
    y.undo();
    y.train(MAIL, 3, 1, 8, 300);
    y.time(1, 25);
    due("not on the line yet", y.why(0, 10), 0);
    y.time(1, 14);
    due("not on the line yet, too near", y.why(0, 10), 4);

    SidingLine z = new SidingLine();
    z.train(EXTRA, 0, 2, 8, 100);
    z.train(WORK, 2, 0, 8, 0);
    z.run(1, 0);
    give(z, 0, 1, 0);
    due("an extra has no table", z.why(1, 0), 4);
    z.train(REGULAR, 2, 0, 8, 3);
    due("a regular goes", z.why(2, 3), 0);
  }

  private static void whyRuleFourOfWorks() {
    SidingLine x = new SidingLine();
    x.train(WORK, 2, 0, 8, 0);
    x.run(0, 0);
    give(x, 0, 0, 0);
    x.train(EXTRA, 2, 0, 8, 15);
    x.run(1, 0);
    give(x, 1, 1, 0);
    due("the work goes down", x.where(0, 15), 100);
    due("of one way still", x.why(1, 15), 0);
    x.time(1, 25);
    due("the work comes back", x.where(0, 25), 100);
    due("it is superior now", x.why(1, 25), 4);
    due("it came by, in the way that it goes now", x.why(1, 40), 0);

    SidingLine y = new SidingLine();
    y.train(WORK, 0, 2, 8, 0);
    y.run(0, 0);
    give(y, 0, 0, 0);
    y.train(EXTRA, 2, 0, 8, 10);
    y.run(1, 0);
    give(y, 1, 1, 0);
    due("superior on its way there", y.why(1, 10), 4);
    due("of one way from now on", y.where(0, 20), 101);
    due("it goes first", y.why(1, 20), 5);
    due("then the other one", y.why(1, 30), 0);

    SidingLine z = new SidingLine();
    z.train(WORK, 0, 2, 8, 0);
    z.train(WORK, 2, 0, 8, 0);
    z.meet(0, 1, 1);
    z.run(0, 0);
    z.run(1, 0);
    z.wait(1, 0, 100);
    give(z, 0, 0, 0);
    give(z, 0, 1, 0);
    give(z, 1, 0, 0);
    give(z, 2, 1, 0);
    give(z, 3, 1, 0);
    due("they meet", z.why(0, 10), 0);
    due("both turn, and may meet there once more", z.why(0, 20), 0);
    due("it was there, but not on its way back", z.why(0, 30), 4);
    due("until it comes", z.why(0, 109), 4);
    due("it came", z.why(0, 110), 0);
  }

  private static void whyRuleFive() {
    SidingLine x = new SidingLine();
    x.train(REGULAR, 0, 2, 8, 0);
    x.train(MAIL, 0, 2, 8, 0);
    due("in the same minute", x.why(1, 0), 5);
    due("9 minutes behind", x.why(1, 9), 5);
    due("10 minutes behind", x.why(1, 10), 0);
    x.train(REGULAR, 1, 2, 8, 11);
    due("by another station", x.why(2, 19), 5);
    due("both left it", x.why(2, 29), 5);
    due("10 behind the second", x.why(2, 30), 0);
    x.train(MAIL, 1, 0, 8, 12);
    due("of the contrary way", x.why(3, 12), 0);
  }

  private static void whyForced() {
    SidingLine x = twoRegulars();
    x.wait(0, 0, 50);
    give(x, 0, 0, 0);
    x.force(0, 7);
    due("not yet", x.why(0, 6), 2);
    due("forced", x.why(0, 7), 0);
    due("it left", x.left(0, 0), 7);
    x.force(0, 9);
    due("under way nothing is forced", x.why(0, 9), NONE);
    x.force(0, 30);
    due("off", x.where(0, 30), 300);
    x.undo();
    x.undo();
    x.undo();
    x.force(0, 0);
    due("in its first minute", x.why(0, 0), 0);
    x.train(REGULAR, 0, 2, 8, 3);
    x.force(2, 4);
    due("whatever was left ahead", x.why(2, 3), 5);
    due("whatever was left ahead, forced", x.why(2, 4), 0);
  }

  /** The lesser one goes by the table, the other one is forced to go against it. */
  private static SidingLine headOn() {
    SidingLine x = twoRegulars();
    x.force(1, 5);
    return x;
  }

  private static void heads() {
    due("none", twoRegulars().heads(), 0);
    due("one", headOn().heads(), 1);
    SidingLine x = headOn();
    x.train(REGULAR, 0, 2, 8, 0);
    due("another follows and meets none", x.heads(), 1);
    x.force(2, 4);
    x.section(1, 20);
    due("two meet the same one", x.heads(), 2);
    SidingLine y = new SidingLine();
    y.train(WORK, 0, 1, 8, 0);
    y.train(REGULAR, 1, 0, 8, 5);
    y.section(0, 30);
    y.run(0, 0);
    give(y, 0, 0, 0);
    y.force(0, 0);
    due("there", y.heads(), 1);
    y.time(1, 35);
    due("on its way back it goes the other's way", y.heads(), 0);
    SidingLine z = new SidingLine();
    z.train(REGULAR, 0, 1, 8, 0);
    z.train(REGULAR, 1, 0, 8, 10);
    due("one comes in, then the other leaves", z.heads(), 0);
    z.force(1, 10);
    z.time(1, 9);
    z.force(1, 9);
    due("a minute earlier", z.heads(), 1);
  }

  private static void headTold() {
    SidingLine x = twoRegulars();
    due("none", x.head(0), NONE);
    due("NONE ahead of BEYOND", x.head(9), NONE);
    SidingLine y = headOn();
    int[] want = {10, 1, 0, 1};
    for (int what = 0; what < 4; what++) due("what " + what, y.head(what), want[what]);
    due("what 4", y.head(4), BEYOND);
    due("what -1", y.head(-1), BEYOND);

    SidingLine z = new SidingLine();
    z.train(REGULAR, 2, 0, 8, 0);
    z.train(REGULAR, 0, 2, 8, 0);
    z.train(REGULAR, 2, 1, 8, 0);
    z.force(0, 8);
    z.force(2, 9);
    due("two in one minute", z.heads(), 2);
    int[] first = {10, 1, 0, 1};
    for (int what = 0; what < 4; what++) due("of both the least pair " + what, z.head(what), first[what]);
    z.undo();
    z.undo();
    z.force(2, 9);
    int[] other = {10, 1, 1, 2};
    for (int what = 0; what < 4; what++) due("the other pair " + what, z.head(what), other[what]);
  }

  private static void causes() {
    SidingLine x = twoRegulars();
    due("no head on", x.cause(), NONE);
    SidingLine y = headOn();
    due("no order", y.cause(), NONE);
    y.train(REGULAR, 0, 1, 8, 300);
    y.meet(2, 1, 1);
    y.wait(2, 0, 9);
    y.annul(1);
    y.run(0, 0);
    y.late(1, 120);
    y.meet(1, 0, 0);
    for (int k = 0; k < 3; k++) give(y, k, 1, 0);
    due("none of both", y.cause(), NONE);
    y.meet(1, 2, 1);
    give(y, 6, 1, 0);
    due("a meet with a third one", y.cause(), NONE);
    y.undo();
    y.undo();
    give(y, 5, 1, 11);
    due("handed too late", y.cause(), NONE);
    give(y, 5, 1, 10);
    due("a meet of both that one held", y.cause(), 5);
    give(y, 4, 0, 10);
    due("a late of one, held by the other", y.cause(), 4);
    give(y, 3, 0, 10);
    due("the least", y.cause(), 3);
    give(y, 3, 1, 10);
    due("both hold it", y.cause(), 4);
    y.annul(3);
    give(y, 6, 1, 0);
    due("one holds its annul", y.cause(), 3);
    SidingLine z = headOn();
    z.wait(0, 2, 400);
    give(z, 0, 1, 10);
    due("a wait", z.cause(), 0);
  }

  private static void fouls() {
    SidingLine x = twoRegulars();
    x.meet(0, 1, 1);
    give(x, 0, 0, 0);
    give(x, 0, 1, 0);
    due("siding 10", x.fouls(), 0);
    x.siding(1, 8);
    due("just as long", x.fouls(), 0);
    x.siding(1, 7);
    due("too short for both", x.fouls(), 1);
    x.siding(1, 0);
    due("no siding", x.fouls(), 1);
    x.train(EXTRA, 1, 2, 1, 0);
    due("a third one there", x.fouls(), 2);
    x.siding(1, 30);
    due("two others at least", x.fouls(), 1);
    x.siding(0, 0);
    x.siding(2, 0);
    due("none where they go off", x.fouls(), 1);

    SidingLine y = new SidingLine();
    y.siding(1, 5);
    y.train(REGULAR, 0, 2, 8, 0);
    y.train(EXTRA, 1, 0, 5, 0);
    due("one of them is short", y.fouls(), 0);
    y.undo();
    y.train(EXTRA, 1, 0, 6, 0);
    due("none is short", y.fouls(), 1);
    y.siding(1, 7);
    due("the one that is there is short", y.fouls(), 0);
    y.undo();
    y.undo();
    y.siding(1, 8);
    y.train(EXTRA, 1, 0, 30, 0);
    due("the one that comes is just as long", y.fouls(), 0);
    y.siding(1, 7);
    due("it is too long", y.fouls(), 1);
    y.time(1, 10);
    due("it comes at its time, behind the other one", y.fouls(), 0);

    SidingLine z = new SidingLine();
    z.siding(2, 5);
    z.train(WORK, 0, 2, 8, 0);
    z.run(0, 0);
    give(z, 0, 0, 0);
    z.train(EXTRA, 2, 0, 8, 0);
    due("a work that turns is not off", z.fouls(), 1);
    z.siding(0, 0);
    z.train(EXTRA, 0, 2, 8, 0);
    due("where it goes off it is", z.fouls(), 1);
  }

  private static void delays() {
    SidingLine x = twoRegulars();
    due("one waits", x.delay(), 20);
    x.train(EXTRA, 0, 2, 8, 0);
    due("one never goes", x.delay(), 1020);
    SidingLine y = new SidingLine();
    y.train(WORK, 0, 2, 8, 7);
    y.run(0, 0);
    give(y, 0, 0, 10);
    due("a work: twice its way", y.delay(), 3);
    y.wait(0, 2, 100);
    give(y, 1, 0, 0);
    due("a work waits where it turns", y.delay(), 73);
    SidingLine z = new SidingLine();
    z.train(EXTRA, 0, 1, 8, 0);
    z.force(0, 490);
    due("off in the last minute", z.delay(), 490);
    due("off", z.where(0, 500), 300);
    z.undo();
    z.force(0, 491);
    due("not off in the day", z.delay(), 1000);
    due("not off", z.where(0, 500), 100);
    due("head on with none", headOn().delay(), 5);
  }

  // ---- mending

  private static void best() {
    SidingLine x = new SidingLine();
    due("no trains", x.best(0), NONE);
    x.train(REGULAR, 0, 2, 8, 0);
    x.train(REGULAR, 1, 2, 8, 0);
    due("of one way", x.best(0), NONE);
    due("NONE ahead of BEYOND", x.best(4), NONE);
    SidingLine y = twoRegulars();
    int[] want = {0, 1, 1, 0};
    for (int what = 0; what < 4; what++) due("what " + what, y.best(what), want[what]);
    due("what 4", y.best(4), BEYOND);
    due("what -1", y.best(-1), BEYOND);
    fillOrders(y);
    due("with twelve orders too", y.best(2), 1);
    y.section(0, 1);
    y.section(1, 1);
    due("the line changed", y.best(3), 0);
    due("the day itself has no such meet", y.delay(), 2);
    due("no order more", y.all(2), 12);
  }

  private static void bestOfSeveral() {
    SidingLine x = new SidingLine();
    x.train(EXTRA, 0, 2, 8, 0);
    x.train(REGULAR, 2, 0, 8, 0);
    x.train(REGULAR, 0, 2, 8, 100);
    int[] want = {0, 1, 0, 1000};
    for (int what = 0; what < 4; what++) due("the first of several " + what, x.best(what), want[what]);
    SidingLine y = headOn();
    y.late(0, 120);
    due("a head on that a meet can mend", y.best(3), 0);
    y.force(0, 7);
    y.wait(0, 1, 12);
    give(y, 1, 0, 0);
    due("fewest head ons first", y.best(3) < 100000 ? 1 : 0, 1);
  }

  private static void prices() {
    SidingLine x = twoRegulars();
    int[] want = {20, 0, 20};
    for (int s = 0; s < 3; s++) {
      due("at " + s, x.price(0, 1, s), want[s]);
      due("either first, at " + s, x.price(1, 0, s), want[s]);
    }
    due("station 3", x.price(0, 1, 3), BEYOND);
    due("station -1", x.price(0, 1, -1), BEYOND);
    due("a 2", x.price(2, 1, 0), BEYOND);
    due("b -1", x.price(0, -1, 0), BEYOND);
    due("itself", x.price(0, 0, 0), SIZE);
    due("BEYOND ahead of SIZE", x.price(0, 0, 3), BEYOND);
    due("the day is as it was", x.delay(), 20);
    SidingLine y = twoRegulars();
    y.wait(1, 2, 5);
    give(y, 0, 1, 0);
    y.force(0, 0);
    y.force(0, 10);
    due("a head on", y.price(0, 1, 0), 100005);
    SidingLine z = twoRegulars();
    z.meet(0, 1, 1);
    z.annul(0);
    for (int t = 0; t < 2; t++) {
      give(z, 0, t, 0);
      give(z, 1, t, 0);
    }
    due("the meet is annulled", z.delay(), 20);
    due("one more is not", z.price(0, 1, 1), 0);
  }

  private static void proofs() {
    SidingLine x = twoRegulars();
    due("missing", x.proves(0, 1, 1, 0), MISSING);
    x.sheet(0, 32, 3);
    due("a 2", x.proves(2, 1, 1, 0), BEYOND);
    due("b 2", x.proves(0, 2, 1, 0), BEYOND);
    due("station 3", x.proves(0, 1, 3, 0), BEYOND);
    due("sheet 4", x.proves(0, 1, 1, 4), BEYOND);
    due("sheet -1", x.proves(0, 1, 1, -1), BEYOND);
    due("of one way", x.proves(0, 0, 1, 0), SIZE);
    due("BEYOND ahead of SIZE", x.proves(0, 0, 1, 4), BEYOND);
    due("SIZE ahead of MISSING", x.proves(0, 0, 1, 1), SIZE);
    due("MISSING ahead of KIND", x.proves(0, 1, 0, 1), MISSING);
    due("not the best", x.proves(0, 1, 0, 0), KIND);
    due("first is wrong", x.proves(0, 1, 1, 0), 0);
    x.put(0, 0, 20);
    due("third is wrong", x.proves(0, 1, 1, 0), 2);
    x.put(0, 2, 20);
    due("proved", x.proves(0, 1, 1, 0), -1);
    due("proved, either first", x.proves(1, 0, 1, 0), -1);
    x.put(0, 1, 1);
    due("second is wrong", x.proves(0, 1, 1, 0), 1);
    x.sheet(0, 32, 4);
    due("too many", x.proves(0, 1, 1, 0), 3);
    x.sheet(0, 32, 0);
    due("too few", x.proves(0, 1, 1, 0), 3);

    SidingLine y = new SidingLine();
    y.train(EXTRA, 0, 2, 8, 0);
    y.train(REGULAR, 2, 0, 8, 0);
    for (int s = 0; s < 3; s++) {
      y.sheet(s, 8 << s, 3);
      for (int i = 0; i < 3; i++) y.put(s, i, i == 0 ? 1000 : 2000);
      due("of " + (8 << s) + " bits", y.proves(0, 1, 0, s), -1);
    }
    y.put(0, 0, 232);
    due("its lowest bits", y.proves(0, 1, 0, 0), -1);
    y.put(1, 0, 232);
    due("all of 16 bits", y.proves(0, 1, 0, 1), 0);
  }

  // ---- sheets, the whole

  private static void sheets() {
    SidingLine x = new SidingLine();
    due("sheet 4", x.sheet(4, 8, 1), BEYOND);
    due("sheet -1", x.sheet(-1, 8, 1), BEYOND);
    due("7 bits", x.sheet(0, 7, 1), BEYOND);
    due("64 bits", x.sheet(0, 64, 1), BEYOND);
    due("-8 bits", x.sheet(0, -8, 1), BEYOND);
    due("bits ahead of n", x.sheet(0, 7, -1), BEYOND);
    due("n -1", x.sheet(0, 8, -1), SIZE);
    due("n 61", x.sheet(0, 8, 61), BEYOND);
    due("n 60", x.sheet(0, 8, 60), 60);
    due("last number", x.put(0, 59, 1), 0);
    due("n 0", x.sheet(0, 16, 0), 0);
    due("none in it", x.put(0, 0, 1), BEYOND);
    due("missing", x.sheet(0, 0, 5), 0);
    due("it is missing", x.put(0, 0, 1), MISSING);
    due("missing, n -1", x.sheet(0, 0, -1), SIZE);
    due("missing, n 61", x.sheet(0, 0, 61), BEYOND);
    due("others", x.sheet(3, 32, 2), 2);
    x.put(3, 0, 5);
    x.put(3, 1, 5);
    due("a finding changes nothing", x.sheet(3, 8, 61), BEYOND);
    due("as it was", x.grades(3), 2);
    x.sheet(3, 32, 2);
    due("all 0 again", x.grades(3), BEYOND);
  }

  private static void puts() {
    SidingLine x = new SidingLine();
    due("sheet 4", x.put(4, 0, 0), BEYOND);
    due("sheet -1", x.put(-1, 0, 0), BEYOND);
    due("missing ahead of BEYOND", x.put(0, -1, 0), MISSING);
    x.sheet(0, 8, 2);
    x.sheet(1, 16, 2);
    x.sheet(2, 32, 2);
    due("number -1", x.put(0, -1, 0), BEYOND);
    due("number 2", x.put(0, 2, 0), BEYOND);
    for (int s = 0; s < 3; s++) {
      due("first", x.put(s, 0, 256 + 7), 0);
      due("second", x.put(s, 1, 65536 + 9), 0);
    }
    due("8 bits", x.grades(0), 2);
    due("8 bits, first", x.section(0, 1), 7);
    due("8 bits, second", x.section(1, 1), 9);
    due("16 bits", x.grades(1), BEYOND);
    x.put(1, 0, -65536 + 11);
    due("16 bits, below 0", x.grades(1), 2);
    due("16 bits, first", x.section(0, 1), 11);
    due("32 bits", x.grades(2), BEYOND);
    x.put(2, 0, 3);
    due("32 bits, second", x.grades(2), BEYOND);
    x.put(2, 1, 30);
    due("32 bits, both", x.grades(2), 2);
  }

  private static void copies() {
    SidingLine x = new SidingLine();
    x.stations(7);
    x.sheet(0, 8, 4);
    x.sheet(1, 8, 6);
    x.sheet(2, 16, 4);
    due("sheet 4", x.copy(4, 0, 0, 0, 1), BEYOND);
    due("to sheet -1", x.copy(0, 0, -1, 0, 1), BEYOND);
    due("from a missing one", x.copy(3, 0, 0, 0, 1), MISSING);
    due("to a missing one", x.copy(0, 0, 3, 0, 1), MISSING);
    due("MISSING ahead of BEYOND", x.copy(0, -1, 3, 0, 1), MISSING);
    due("of other bits", x.copy(0, 0, 2, 0, 1), KIND);
    due("KIND ahead of BEYOND", x.copy(0, 0, 2, 0, -1), KIND);
    due("from -1", x.copy(0, -1, 1, 0, 1), BEYOND);
    due("to -1", x.copy(0, 0, 1, -1, 1), BEYOND);
    due("n -1", x.copy(0, 0, 1, 0, -1), BEYOND);
    due("5 of 4", x.copy(0, 0, 1, 0, 5), BEYOND);
    due("4 of 4 from 1", x.copy(0, 1, 1, 0, 4), BEYOND);
    due("4 into 6 from 3", x.copy(0, 0, 1, 3, 4), BEYOND);
    due("far too many", x.copy(0, 1, 1, 0, Integer.MAX_VALUE), BEYOND);
    due("from far off", x.copy(0, Integer.MAX_VALUE, 1, 0, 1), BEYOND);
    due("none from the end on", x.copy(0, 4, 1, 6, 0), 0);
    for (int i = 0; i < 4; i++) x.put(0, i, i + 1);
    for (int i = 0; i < 6; i++) x.put(1, i, 20);
    due("all", x.copy(0, 0, 1, 2, 4), 4);
    expectGrades(x, 1, 20, 20, 1, 2, 3, 4);
    due("into itself, up", x.copy(1, 1, 1, 2, 4), 4);
    expectGrades(x, 1, 20, 20, 20, 1, 2, 3);
    due("into itself, down", x.copy(1, 2, 1, 0, 4), 4);
    expectGrades(x, 1, 20, 1, 2, 3, 2, 3);
    expectGrades(x, 0, 1, 2, 3, 4);
  }

  private static void expectGrades(SidingLine x, int s, int... want) {
    due("grades", x.grades(s), want.length);
    for (int i = 0; i < want.length; i++) due("number " + i, x.section(i, want[i]), want[i]);
  }

  private static void grades() {
    SidingLine x = new SidingLine();
    due("sheet 4", x.grades(4), BEYOND);
    due("sheet -1", x.grades(-1), BEYOND);
    due("missing", x.grades(0), MISSING);
    x.sheet(0, 8, 3);
    x.put(0, 0, 1);
    x.put(0, 1, 30);
    due("only those that are used", x.grades(0), 2);
    due("first", x.section(0, 10), 1);
    due("second", x.section(1, 10), 30);
    x.put(0, 1, 31);
    due("31", x.grades(0), BEYOND);
    due("nothing changed", x.section(0, 10), 10);
    x.put(0, 1, 0);
    due("0", x.grades(0), BEYOND);
    x.put(0, 1, -1);
    due("-1", x.grades(0), BEYOND);
    x.sheet(1, 32, 1);
    x.put(1, 0, 7);
    due("as far as there are numbers", x.grades(1), 1);
    due("first again", x.section(0, 10), 7);
    due("second stays", x.section(1, 10), 10);
    x.sheet(2, 32, 0);
    due("none", x.grades(2), 0);
  }

  private static void undoOfEachAct() {
    SidingLine x = twoRegulars();
    x.undo();
    x.undo();
    due("nothing more", x.undo(), NONE);
    due("no trains", x.all(1), 0);
    x.stations(5);
    x.undo();
    due("stations", x.all(0), 3);
    x.siding(0, 1);
    x.undo();
    due("siding", x.siding(0, 10), 10);
    x.section(0, 1);
    x.undo();
    due("section", x.section(0, 10), 10);
    x.train(REGULAR, 0, 2, 8, 0);
    x.train(REGULAR, 2, 0, 8, 0);
    x.time(0, 50);
    due("delay with time", x.delay(), 0);
    x.undo();
    due("time", x.of(0, 4), 0);
    due("the day, too", x.delay(), 20);
    x.meet(0, 1, 1);
    x.undo();
    x.late(0, 1);
    x.undo();
    x.wait(0, 1, 1);
    x.undo();
    x.run(0, 1);
    x.undo();
    due("orders", x.all(2), 0);
    x.run(0, 1);
    x.annul(0);
    x.undo();
    due("annul", x.all(2), 1);
    x.hand(0, 0, 50);
    x.hand(0, 0, 20);
    x.undo();
    due("the earlier handing", x.hand(0, 0, 400), 50);
    x.undo();
    x.undo();
    due("no handing", x.order(0, 5), 0);
    x.force(1, 0);
    due("delay with force", x.delay(), 0);
    x.undo();
    due("force", x.all(3), 0);
    due("delay without", x.delay(), 20);
    x.wait(0, 0, 40);
    x.hand(1, 0, 0);
    due("best with the wait", x.best(3), 40);
    x.undo();
    due("best without", x.best(3), 0);
    x.undo();
    x.sheet(0, 8, 1);
    x.put(0, 0, 3);
    x.grades(0);
    x.put(0, 0, 4);
    x.undo();
    due("grades", x.section(0, 10), 10);
    x.grades(0);
    due("sheets stay", x.section(0, 10), 4);
  }

  /** One act of each sort: each is kept, so each undo tells one less. */
  private static void undoCountsEachAct() {
    SidingLine x = new SidingLine();
    x.sheet(0, 8, 1);
    x.put(0, 0, 3);
    x.stations(4);
    x.siding(0, 5);
    x.section(0, 5);
    x.train(REGULAR, 0, 2, 8, 0);
    x.train(REGULAR, 2, 0, 8, 0);
    x.time(0, 5);
    x.meet(0, 1, 1);
    x.late(0, 5);
    x.wait(0, 0, 5);
    x.run(0, 5);
    x.annul(0);
    x.hand(0, 0, 5);
    x.force(0, 5);
    x.grades(0);
    for (int more = 13; more >= 0; more--) due("acts kept", x.undo(), more);
    due("no more", x.undo(), NONE);
  }

  private static void undoKeepsSixteen() {
    SidingLine x = new SidingLine();
    for (int i = 0; i < 20; i++) x.siding(0, i);
    x.siding(0, 31);
    x.all(9);
    x.sheet(0, 8, 5);
    for (int more = 15; more >= 0; more--) due("more " + more, x.undo(), more);
    due("no more", x.undo(), NONE);
    due("as it was ahead of the sixteen", x.siding(0, 9), 3);
    due("one more act", x.undo(), 0);
    due("findings are not undone", x.all(4), 3);
    x.siding(0, 3);
    x.siding(0, 3);
    due("one that changed nothing", x.undo(), 1);
  }

  private static void all() {
    SidingLine x = new SidingLine();
    x.stations(6);
    x.train(EXTRA, 0, 5, 8, 0);
    x.train(EXTRA, 5, 0, 8, 0);
    x.train(EXTRA, 5, 0, 8, 0);
    x.run(0, 0);
    x.run(1, 0);
    x.force(0, 0);
    int[] want = {6, 3, 2, 1, 0};
    for (int what = 0; what < 5; what++) due("what " + what, x.all(what), want[what]);
    due("what 5", x.all(5), BEYOND);
    due("it counts itself", x.all(4), 1);
    due("what -1", x.all(-1), BEYOND);
    due("a question's finding counts", x.due(0, 9), BEYOND);
    due("-1 is none", x.hand(0, 0, 0), -1);
    due("so many", x.all(4), 3);
  }

}
