/** Edges of the rules (1) to (5) by which a train may leave, each on both sides. */
final class RuleEdges extends Edges {
  static void check() {
    promise(TERMS);
    byTheTable();
    byRuns();
    waits();
    meets();
    meetsOfWorks();
    superiorByClearance();
    superiorByMeet();
    superiorThatCounts();
    superiorWorks();
    apart();
    leastOfAll();
    forced();
  }

  private static void byTheTable() {
    says("Then, by numbers, each TRAIN that is AT a STATION leaves it, for the next one of its WAY, if it MAY: (1) a"
        + " REGULAR, a MAIL: the minute is not below DUE there and all LATES of it together that it HOLDS.");
    for (int kind = REGULAR; kind <= MAIL; kind++) {
      SidingLine x = new SidingLine();
      x.train(kind, 0, 2, 8, 300);
      due("when it is due", x.left(0, 0), 300);
      x.late(0, 1);
      give(x, 0, 0, 300);
      due("below a late", x.why(0, 300), 1);
      due("not below it", x.why(0, 301), 0);
      due("late at the next one, too", x.left(0, 1), 311);
      x.late(0, 120);
      give(x, 1, 0, 0);
      due("both together, below", x.why(0, 420), 1);
      due("both together", x.why(0, 421), 0);
      x.late(0, 120);
      give(x, 2, 0, 400);
      due("never in this day", x.left(0, 0), NONE);
      due("to the last minute", x.why(0, 500), 1);
      x.annul(1);
      give(x, 3, 0, 400);
      due("one is annulled", x.left(0, 0), 421);
      x.run(0, 0);
      give(x, 4, 0, 0);
      due("a run is nothing to it", x.left(0, 0), 421);
    }
    forcedAheadOfDue();
    leavingsGoByNumbers();
  }

  /** Only a late that is held when it matters counts, and only its own. */
  private static void forcedAheadOfDue() {
    SidingLine x = new SidingLine();
    x.train(REGULAR, 0, 2, 8, 0);
    x.train(REGULAR, 2, 0, 8, 300);
    x.late(1, 120);
    give(x, 0, 0, 0);
    due("another one's late", x.left(0, 0), 0);
    x.late(0, 5);
    give(x, 1, 1, 0);
    due("its own, that the other one holds", x.left(0, 0), 0);
    give(x, 1, 0, 1);
    due("too late for the first station", x.left(0, 0), 0);
    due("but not for the next one", x.left(0, 1), 15);
    x.force(0, 12);
    due("forced ahead of that", x.left(0, 1), 12);
  }

  /** In one minute the lesser one leaves first, so the greater one is too near behind it. */
  private static void leavingsGoByNumbers() {
    SidingLine x = new SidingLine();
    x.train(REGULAR, 0, 2, 8, 0);
    x.train(MAIL, 0, 2, 8, 0);
    due("the lesser one", x.left(0, 0), 0);
    due("the greater one", x.left(1, 0), 10);
  }

  private static void byRuns() {
    says("An EXTRA, a WORK: it HOLDS a RUN of it from that minute, or an earlier one, on.");
    for (int kind : new int[] {EXTRA, WORK}) {
      SidingLine x = new SidingLine();
      x.train(kind, 0, 2, 8, 0);
      x.train(kind, 0, 2, 8, 0);
      due("without any", x.why(0, 500), 1);
      x.wait(0, 0, 0);
      give(x, 0, 0, 0);
      due("a wait is no run", x.why(0, 500), 1);
      x.undo();
      x.undo();
      x.run(0, 400);
      give(x, 0, 1, 0);
      due("its run, that another one holds", x.why(0, 500), 1);
      due("another one's run", x.why(1, 500), 1);
      give(x, 0, 0, 400);
      due("below both", x.why(0, 399), 1);
      due("from both on", x.why(0, 400), 0);
      x.run(0, 0);
      give(x, 1, 0, 5);
      due("not held yet", x.why(0, 4), 1);
      due("held", x.why(0, 5), 0);
      x.run(0, 3);
      give(x, 2, 0, 0);
      due("from a later minute on", x.why(0, 2), 1);
      due("from that minute on", x.why(0, 3), 0);
      x.late(0, 120);
      give(x, 3, 0, 0);
      due("a late is nothing to it", x.why(0, 3), 0);
      x.annul(2);
      give(x, 4, 0, 3);
      due("annulled in that minute", x.why(0, 3), 1);
    }
  }

  private static void waits() {
    says("(2) it HOLDS no WAIT of it there until a later minute.");
    SidingLine x = new SidingLine();
    x.train(REGULAR, 0, 2, 8, 0);
    x.train(REGULAR, 2, 1, 8, 300);
    x.wait(0, 0, 0);
    give(x, 0, 0, 0);
    due("until minute 0", x.why(0, 0), 0);
    x.wait(0, 0, 1);
    give(x, 1, 0, 0);
    due("until 1, in 0", x.why(0, 0), 2);
    due("until 1, in 1", x.why(0, 1), 0);
    x.wait(0, 1, 400);
    give(x, 2, 1, 0);
    due("the other one holds it", x.left(0, 1), 11);
    give(x, 2, 0, 12);
    due("handed when it has left", x.left(0, 1), 11);
    give(x, 2, 0, 11);
    due("handed in its minute", x.why(0, 11), 2);
    due("until 400, in 399", x.why(0, 399), 2);
    due("until 400, in 400", x.why(0, 400), 0);
    x.wait(1, 0, 400);
    give(x, 3, 0, 0);
    due("of another one", x.left(0, 0), 1);
    x.wait(0, 2, 400);
    give(x, 4, 0, 0);
    due("where it goes off", x.where(0, 410), OFF);
  }

  private static void meets() {
    says("(3) for each MEET of it that it HOLDS at this STATION: the other one is AT this STATION, or was AT it in this"
        + " DAY (on its way; WORKS: either way), or is off the line.");
    SidingLine x = new SidingLine();
    x.train(REGULAR, 0, 2, 8, 0);
    x.train(REGULAR, 1, 0, 8, 10);
    x.meet(1, 0, 1);
    give(x, 0, 0, 0);
    due("it is at its FROM in that minute", x.why(0, 10), 0);
    x.time(1, 11);
    due("not yet", x.why(0, 10), 3);
    due("now it is", x.why(0, 11), 0);
    x.time(1, 5);
    x.force(1, 5);
    due("it was there, and left", x.why(0, 10), 0);
    SidingLine y = new SidingLine();
    y.train(REGULAR, 1, 2, 8, 0);
    y.train(MAIL, 2, 0, 8, 20);
    y.meet(0, 1, 1);
    give(y, 0, 0, 0);
    due("not when it leaves for it", y.why(0, 20), 3);
    due("a minute ahead", y.why(0, 29), 3);
    due("in the minute that it comes", y.why(0, 30), 0);
    y.undo();
    give(y, 0, 1, 0);
    due("held by the other one alone", y.why(0, 0), 0);
    meetOfOneThatIsOff();
    twoMeets();
  }

  private static void meetOfOneThatIsOff() {
    SidingLine x = lineOf(4);
    x.train(REGULAR, 0, 3, 8, 0);
    x.train(MAIL, 1, 0, 8, 0);
    x.meet(0, 1, 3);
    x.meet(0, 1, 0);
    give(x, 1, 0, 0);
    due("it comes there and goes off", x.why(0, 9), 3);
    due("it is off", x.why(0, 10), 0);
    x.meet(0, 1, 2);
    give(x, 2, 0, 0);
    due("off long ago, and never there", x.left(0, 2), 30);
    x.train(MAIL, 1, 0, 8, 0);
    due("two go off, one behind the other", x.came(2, 0), 20);
    due("the first of them is off still", x.left(0, 0), 20);
    due("at each station", x.left(0, 2), 40);
  }

  private static void twoMeets() {
    SidingLine x = new SidingLine();
    x.train(MAIL, 0, 2, 8, 0);
    x.train(REGULAR, 1, 0, 8, 20);
    x.train(REGULAR, 1, 0, 8, 40);
    x.meet(0, 1, 1);
    x.meet(0, 2, 1);
    give(x, 0, 0, 0);
    due("one of them", x.left(0, 1), 20);
    give(x, 1, 0, 0);
    due("each of them, not yet", x.why(0, 39), 3);
    due("each of them", x.left(0, 1), 40);
    x.annul(1);
    give(x, 2, 0, 30);
    due("but the one that is annulled", x.left(0, 1), 30);
    SidingLine y = new SidingLine();
    y.train(MAIL, 0, 2, 8, 0);
    y.train(REGULAR, 1, 0, 8, 40);
    y.train(REGULAR, 1, 0, 8, 20);
    y.meet(1, 0, 1);
    y.meet(2, 0, 1);
    give(y, 0, 0, 0);
    give(y, 1, 0, 0);
    due("each of them, told as the other one", y.left(0, 1), 40);
  }

  private static void meetsOfWorks() {
    SidingLine x = lineOf(4);
    x.train(WORK, 0, 2, 8, 0);
    x.run(0, 0);
    give(x, 0, 0, 0);
    x.train(MAIL, 3, 0, 8, 100);
    x.meet(0, 1, 1);
    x.meet(0, 1, 2);
    x.meet(0, 1, 3);
    for (int k = 1; k <= 3; k++) give(x, k, 1, 0);
    due("a work was there on its way, and is off", x.where(0, 40), OFF);
    due("so nothing stops it", x.left(1, 1), 120);
    x.time(1, 21);
    due("one station that it never comes to", x.why(1, 39), 3);
    due("it went off", x.why(1, 40), 0);
    SidingLine y = lineOf(4);
    y.train(WORK, 0, 2, 8, 0);
    y.run(0, 0);
    give(y, 0, 0, 0);
    y.force(0, 0);
    y.wait(0, 2, 400);
    give(y, 1, 0, 0);
    y.train(MAIL, 1, 0, 8, 5);
    y.meet(1, 0, 1);
    give(y, 2, 1, 0);
    due("a work comes on its way there", y.why(1, 9), 3);
    due("that is enough", y.why(1, 10), 0);
    y.time(1, 200);
    due("it was there, on its way there", y.why(1, 200), 0);
  }

  /** An extra from 0 on in a minute of its own, a train of the contrary way due at 1 ten minutes behind its time. */
  private static SidingLine against(int kind, int itsTime, int minute) {
    SidingLine x = new SidingLine();
    x.train(EXTRA, 0, 2, 8, minute);
    x.run(0, 0);
    give(x, 0, 0, 0);
    x.train(kind, 2, 0, 8, itsTime);
    return x;
  }

  private static void superiorByClearance() {
    says("(4) for each TRAIN of the contrary WAY that is SUPERIOR to it, that goes over the SECTION that it would go"
        + " over, was not AT this STATION (in the WAY that it goes now), and is not off the line: it HOLDS a MEET of"
        + " both at a STATION behind the SECTION (the next one of its WAY, or further on); or the other one is a"
        + " REGULAR or MAIL, and the minute, the MINUTES of the SECTION and 5 more are not above when that one is DUE"
        + " at the next STATION, and all LATES of that one that it HOLDS.");
    for (int kind = REGULAR; kind <= MAIL; kind++) {
      due("just 5 more", against(kind, 50, 45).why(0, 45), 0);
      due("only 4 more", against(kind, 50, 46).why(0, 46), 4);
      SidingLine x = against(kind, 50, 25);
      x.section(0, 30);
      due("a long section", x.why(0, 25), 0);
      x.time(0, 26);
      due("a long section, only 4 more", x.why(0, 26), 4);
      x.late(1, 1);
      x.late(1, 120);
      give(x, 1, 1, 0);
      due("a late that only the other one holds", x.why(0, 26), 4);
      give(x, 1, 0, 26);
      due("a late that this one holds", x.why(0, 26), 0);
      x.time(0, 147);
      give(x, 2, 1, 0);
      give(x, 2, 0, 147);
      due("only 4 more, with two lates", x.why(0, 147), 4);
      x.time(0, 146);
      give(x, 2, 0, 146);
      due("just 5 more, with two lates", x.why(0, 146), 0);
    }
    downTheLine();
    extrasHaveNoTable();
  }

  /** The same edge for one that goes down: what is due at the next one is the other one's. */
  private static void downTheLine() {
    SidingLine x = new SidingLine();
    x.section(0, 7);
    x.train(MAIL, 0, 2, 8, 60);
    x.train(WORK, 2, 1, 8, 52);
    x.run(1, 0);
    give(x, 0, 1, 0);
    due("just 5 more", x.why(1, 52), 0);
    x.time(1, 53);
    due("only 4 more", x.why(1, 53), 4);
  }

  private static void extrasHaveNoTable() {
    for (int kind : new int[] {EXTRA, WORK}) {
      SidingLine x = new SidingLine();
      x.train(kind, 0, 2, 8, 300);
      x.train(EXTRA, 2, 0, 8, 0);
      x.run(1, 0);
      give(x, 0, 1, 0);
      due("however far off", x.why(1, 0), 4);
      x.late(0, 120);
      give(x, 1, 1, 0);
      due("and late", x.why(1, 0), 4);
      x.meet(1, 0, 1);
      give(x, 2, 1, 1);
      due("only a meet helps", x.why(1, 1), 0);
    }
  }

  private static void superiorByMeet() {
    SidingLine x = lineOf(4);
    x.train(EXTRA, 1, 3, 8, 0);
    x.run(0, 0);
    give(x, 0, 0, 0);
    x.train(MAIL, 3, 0, 8, 0);
    x.train(MAIL, 3, 0, 8, 0);
    x.wait(1, 3, 400);
    give(x, 1, 1, 0);
    x.wait(2, 3, 400);
    give(x, 2, 2, 0);
    for (int s = 0; s < 4; s++) x.meet(s % 2, 1 - s % 2, s);
    x.meet(0, 2, 3);
    due("no meet", x.why(0, 0), 4);
    give(x, 3, 0, 0);
    due("at a station behind it", x.why(0, 0), 4);
    give(x, 4, 0, 0);
    due("at this one, that is (3)", x.why(0, 0), 3);
    x.undo();
    give(x, 5, 0, 0);
    due("at the next one, but of one of both", x.why(0, 0), 4);
    give(x, 7, 0, 1);
    due("of both, not in 0", x.why(0, 0), 4);
    due("of both, in 1", x.why(0, 1), 0);
    x.undo();
    x.undo();
    give(x, 6, 0, 1);
    give(x, 7, 0, 1);
    due("further on", x.why(0, 1), 0);
    x.undo();
    give(x, 7, 1, 0);
    due("held by the other one alone", x.why(0, 1), 4);
  }

  private static void superiorThatCounts() {
    for (int kind = EXTRA; kind <= WORK; kind++) {
      int want = kind == REGULAR || kind == MAIL ? 4 : 0;
      due("against one of kind " + kind, against(kind, 0, 0).why(0, 0), want);
    }
    SidingLine x = new SidingLine();
    x.train(EXTRA, 1, 2, 8, 0);
    x.run(0, 0);
    give(x, 0, 0, 0);
    x.train(MAIL, 1, 0, 8, 0);
    due("one that goes over another section", x.why(0, 0), 0);
    x.train(MAIL, 2, 0, 8, 0);
    due("one that comes over this one", x.why(0, 9), 4);
    due("when it is at this station", x.why(0, 10), 0);
    x.undo();
    x.train(MAIL, 2, 1, 8, 0);
    due("one that goes off here, not yet", x.why(0, 9), 4);
    due("one that goes off here", x.why(0, 10), 0);
    SidingLine y = new SidingLine();
    y.train(EXTRA, 0, 1, 8, 0);
    y.run(0, 0);
    give(y, 0, 0, 0);
    y.train(MAIL, 2, 1, 8, 0);
    due("one that ends where the section does", y.why(0, 0), 0);
    y.train(MAIL, 0, 2, 8, 0);
    due("one of the same way", y.why(0, 0), 0);
    says("TRAINS that are not on the line yet count too.) (5) no TRAIN of its WAY left this STATION for the same SECTION"
        + " less than 10 minutes ago.");
    due("not on the line yet, just far enough", against(MAIL, 300, 295).why(0, 295), 0);
    due("not on the line yet, too near", against(MAIL, 300, 296).why(0, 296), 4);
    due("it is not on the line", against(MAIL, 300, 296).where(1, 299), NOT_YET);
  }

  private static void superiorWorks() {
    says("(WORKS on their way back: the WAY that they go.");
    SidingLine x = lineOf(4);
    x.train(WORK, 3, 1, 8, 0);
    x.run(0, 0);
    give(x, 0, 0, 0);
    x.train(EXTRA, 3, 1, 8, 12);
    x.run(1, 0);
    give(x, 1, 1, 0);
    due("a work goes the same way", x.why(1, 12), 0);
    x.time(1, 20);
    due("it turned, and is superior now", x.where(0, 20), 101);
    due("it was here, but not in the way that it goes now", x.why(1, 20), 4);
    due("a minute ahead", x.why(1, 39), 4);
    due("it is off", x.why(1, 40), 0);
    SidingLine y = lineOf(4);
    y.train(WORK, 0, 2, 8, 0);
    y.run(0, 0);
    give(y, 0, 0, 0);
    y.train(EXTRA, 2, 0, 8, 0);
    y.run(1, 0);
    give(y, 1, 1, 0);
    due("superior on its way there", y.why(1, 19), 4);
    due("then of the same way, and just ahead", y.why(1, 20), 5);
    y.train(EXTRA, 1, 2, 8, 25);
    y.run(2, 0);
    give(y, 2, 2, 0);
    due("inferior on its way back", y.why(2, 25), 0);
    SidingLine z = lineOf(4);
    z.train(WORK, 0, 2, 8, 0);
    z.run(0, 0);
    give(z, 0, 0, 0);
    z.train(EXTRA, 0, 2, 8, 5);
    z.run(1, 0);
    give(z, 1, 1, 10);
    due("a work itself, superior on its way there", z.left(0, 1), 10);
    due("it waits where it turns", z.why(0, 20), 4);
    due("until the other one is there", z.why(0, 29), 4);
    due("which now is superior", z.left(0, 2), 30);
  }

  private static void apart() {
    says("TRAINS that are not on the line yet count too.) (5) no TRAIN of its WAY left this STATION for the same SECTION"
        + " less than 10 minutes ago.");
    SidingLine x = lineOf(4);
    x.train(REGULAR, 0, 3, 8, 0);
    x.train(REGULAR, 1, 3, 8, 10);
    x.train(EXTRA, 1, 0, 8, 10);
    x.run(2, 0);
    give(x, 0, 2, 0);
    due("in that very minute", x.why(1, 10), 5);
    due("9 minutes ago", x.why(1, 19), 5);
    due("10 minutes ago", x.why(1, 20), 0);
    due("of the contrary way", x.why(2, 10), 0);
    x.time(1, 9);
    due("one that goes ahead of it", x.why(1, 9), 0);
    due("holds the first one", x.why(0, 18), 5);
    due("for ten minutes", x.left(0, 1), 19);
    x.train(REGULAR, 2, 3, 8, 15);
    due("none left this station, though one left the one behind it", x.why(3, 15), 0);
    SidingLine y = new SidingLine();
    y.train(EXTRA, 0, 2, 8, 0);
    y.train(REGULAR, 0, 2, 8, 0);
    y.force(0, 0);
    due("behind one that was forced", y.left(1, 0), 10);
    y.force(1, 9);
    due("forced itself", y.left(1, 0), 9);
    y.train(REGULAR, 0, 2, 8, 10);
    due("the later one counts", y.left(2, 0), 19);
    SidingLine z = new SidingLine();
    z.section(0, 3);
    z.train(WORK, 0, 1, 8, 0);
    z.run(0, 0);
    give(z, 0, 0, 0);
    z.train(REGULAR, 0, 2, 8, 4);
    due("a work that turned since", z.why(1, 4), 5);
    due("left nine minutes ago", z.why(1, 9), 5);
    due("left ten minutes ago", z.left(1, 0), 10);
    z.force(0, 3);
    due("a work that is off since", z.where(0, 6), OFF);
    due("left nine minutes ago, too", z.why(1, 9), 5);
    due("left ten minutes ago, too", z.left(1, 0), 10);
  }

  private static void leastOfAll() {
    says("WHY it may not: the least of (1) to (5) that stands against it.");
    SidingLine x = new SidingLine();
    x.train(REGULAR, 0, 2, 8, 0);
    x.train(MAIL, 2, 0, 8, 5);
    x.train(REGULAR, 0, 2, 8, 20);
    x.force(2, 20);
    x.late(0, 5);
    x.wait(0, 0, 10);
    x.meet(0, 1, 0);
    x.annul(2);
    for (int k = 0; k < 3; k++) give(x, k, 0, 0);
    give(x, 3, 0, 12);
    int[][] rows = {{0, 1}, {4, 1}, {5, 2}, {9, 2}, {10, 3}, {11, 3}, {12, 4}, {24, 4}, {25, 5}, {29, 5}, {30, 0}};
    for (int[] row : rows) due("in minute " + row[0], x.why(0, row[0]), row[1]);
    due("it left", x.left(0, 0), 30);
    says("THE DAY goes on in spite of them.");
    due("one was head on", x.heads(), 1);
    for (int t = 0; t < 3; t++) due(t + " went off", x.where(t, 500), OFF);
    due("the forced one on time", x.came(2, 2), 40);
  }

  private static void forced() {
    says("A FORCED one leaves in its minute, if it is AT a STATION (and not off).");
    SidingLine x = new SidingLine();
    x.train(EXTRA, 0, 2, 8, 10);
    x.force(0, 9);
    due("ahead of its time", x.left(0, 0), NONE);
    x.force(0, 10);
    due("in its time", x.left(0, 0), 10);
    x.force(0, 19);
    due("between stations", x.left(0, 1), NONE);
    due("why between stations", x.why(0, 19), NONE);
    x.force(0, 20);
    due("in the minute that it comes in", x.left(0, 1), 20);
    x.force(0, 30);
    due("where it goes off", x.left(0, 2), NONE);
    due("why where it goes off", x.why(0, 30), NONE);
    due("it is off", x.where(0, 30), OFF);
    says("FORCED: a TRAIN leaves a STATION in a minute whatever it HOLDS (at most 6 are told).");
    SidingLine y = new SidingLine();
    y.train(REGULAR, 0, 2, 8, 0);
    y.train(MAIL, 2, 0, 8, 9);
    y.late(0, 120);
    y.wait(0, 0, 400);
    y.meet(0, 1, 0);
    for (int k = 0; k < 3; k++) give(y, k, 0, 0);
    due("held", y.why(0, 7), 1);
    y.force(0, 7);
    due("forced", y.why(0, 7), 0);
    due("just then", y.left(0, 0), 7);
    due("not at the next one", y.why(0, 17), 1);
    for (int i = 2; i <= 6; i++) due("told", y.force(1, 100 + i), i);
    due("no more", y.force(0, 17), FULL);
    due("so it is not forced", y.why(0, 17), 1);
  }
}
