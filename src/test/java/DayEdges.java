/** Edges of promises 20 to 28, and of how the day is run. */
final class DayEdges extends Edges {
  static void check() {
    promise(TERMS);
    minutesOfTheDay();
    comingIn();
    turning();
    appearing();
    headOns();
    foulsOfTwo();
    foulsOfThree();
    foulsInTheirMinute();
    delays();
    causes();
    promise(20);
    where();
    promise(21);
    came();
    promise(22);
    left();
    promise(23);
    why();
    promise(24);
    heads();
    promise(25);
    head();
    promise(26);
    cause();
    promise(27);
    fouls();
    promise(28);
    delay();
  }

  /** An extra from 0 to 1 and another one back, that leave only when they are forced. */
  private static SidingLine twoExtras() {
    SidingLine x = new SidingLine();
    x.train(EXTRA, 0, 1, 8, 0);
    x.train(EXTRA, 1, 0, 8, 0);
    return x;
  }

  private static void minutesOfTheDay() {
    says("THE DAY is run in minutes 0 to 500.");
    SidingLine x = new SidingLine();
    x.train(REGULAR, 0, 2, 8, 0);
    due("it begins in 0", x.left(0, 0), 0);
    due("behind 0", x.where(0, 0), 100);
    SidingLine y = twoExtras();
    y.force(0, 500);
    due("ahead of the end", y.where(0, 499), 0);
    due("it leaves in the last minute", y.left(0, 0), 500);
    due("behind the last one", y.where(0, 500), 100);
    due("it never comes", y.came(0, 1), NONE);
    due("nor goes off", y.delay(), 2000);
    y.force(1, 490);
    due("one comes in the last minute", y.came(1, 0), 500);
    due("and goes off", y.where(1, 500), OFF);
    due("so they do not meet", y.heads(), 0);
  }

  private static void comingIn() {
    says("In each one first all TRAINS come in, by numbers, that left so many minutes ago as their SECTION takes: they"
        + " are AT the STATION then; one that is AT its TO goes off the line at once (WORKS that came TO turn: they are"
        + " AT it, go back the contrary WAY to FROM, where they go off; what is DUE for them on the way back: when they"
        + " came TO, and the MINUTES of SECTIONS from there).");
    SidingLine x = new SidingLine();
    x.section(0, 1);
    x.section(1, 30);
    x.train(REGULAR, 0, 2, 8, 0);
    due("1 minute: in it", x.where(0, 0), 100);
    due("1 minute: it came", x.came(0, 1), 1);
    due("and left at once", x.where(0, 1), 101);
    due("30 minutes: in it", x.where(0, 30), 101);
    due("30 minutes: off", x.where(0, 31), OFF);
    due("it came TO", x.came(0, 2), 31);
    due("and did not leave it", x.left(0, 2), NONE);
    SidingLine y = twoRegulars();
    y.force(1, 0);
    due("first all come in, so none is in the way", y.heads(), 0);
    due("the lesser one goes on in that minute", y.left(0, 1), 10);
    due("the greater one, too", y.left(1, 1), 10);
  }

  private static void turning() {
    SidingLine x = lineOf(4);
    x.train(WORK, 1, 3, 8, 7);
    x.run(0, 0);
    give(x, 0, 0, 0);
    int[] minutes = {6, 7, 16, 17, 26, 27, 36, 37, 46, 47, 500};
    int[] want = {200, 101, 101, 102, 102, 102, 102, 101, 101, 300, 300};
    for (int i = 0; i < minutes.length; i++) due("work in " + minutes[i], x.where(0, minutes[i]), want[i]);
    due("no delay", x.delay(), 0);
    due("left where it turned", x.left(0, 3), 27);
    x.wait(0, 3, 30);
    give(x, 1, 0, 0);
    due("it is AT it", x.where(0, 29), 3);
    due("it holds a wait there", x.why(0, 29), 2);
    due("then it goes back", x.where(0, 30), 102);
    x.wait(0, 1, 400);
    give(x, 2, 0, 10);
    due("where it goes off no wait counts", x.where(0, 50), OFF);
    x.wait(0, 2, 60);
    give(x, 3, 0, 20);
    due("one on the way back does", x.why(0, 59), 2);
    due("it stands there", x.where(0, 59), 2);
    due("in the end it goes off", x.where(0, 70), OFF);
    SidingLine y = new SidingLine();
    y.train(WORK, 0, 1, 8, 0);
    y.force(0, 490);
    due("it turns in the last minute", y.where(0, 500), 1);
    due("and could leave then", y.why(0, 500), 1);
    due("but is not off", y.delay(), 1000);
    y.force(0, 500);
    due("forced back", y.where(0, 500), 100);
  }

  private static void appearing() {
    says("Those whose TIME it is are AT FROM (ahead of the leavings).");
    for (int time : new int[] {0, 300}) {
      SidingLine x = new SidingLine();
      x.train(REGULAR, 1, 2, 8, time);
      due("it came in " + time, x.came(0, 1), time);
      due("it leaves in " + time, x.left(0, 1), time);
      if (time > 0) due("ahead of " + time, x.where(0, time - 1), NOT_YET);
    }
    SidingLine y = new SidingLine();
    y.train(REGULAR, 1, 2, 8, 0);
    y.train(REGULAR, 1, 0, 8, 50);
    y.meet(0, 1, 1);
    give(y, 0, 0, 0);
    due("a lesser one that waits for it", y.left(0, 1), 50);
  }

  private static void headOns() {
    says("HEAD ON: two of contrary WAYS are in one SECTION in one minute (behind all leavings).");
    SidingLine x = twoExtras();
    x.force(0, 0);
    x.force(1, 10);
    due("one comes in, then the other one leaves", x.heads(), 0);
    x.force(1, 9);
    due("one minute earlier", x.heads(), 1);
    due("in that minute", x.head(0), 9);
    SidingLine y = twoExtras();
    y.section(0, 1);
    y.force(0, 500);
    y.force(1, 500);
    due("in the last minute", y.heads(), 1);
    due("it is 500", y.head(0), 500);
    SidingLine z = twoExtras();
    z.section(0, 1);
    z.force(1, 3);
    z.force(0, 4);
    due("1 minute: one behind the other", z.heads(), 0);
    z.force(0, 3);
    due("1 minute: both at once", z.heads(), 1);
    SidingLine w = new SidingLine();
    w.train(EXTRA, 0, 2, 8, 0);
    w.train(EXTRA, 0, 2, 8, 0);
    w.train(EXTRA, 2, 0, 8, 0);
    w.force(0, 0);
    w.force(1, 0);
    due("two of one way", w.heads(), 0);
    w.force(2, 0);
    due("three, but in two sections", w.heads(), 0);
    w.force(0, 9);
    w.force(0, 10);
    due("each comes in first", w.heads(), 0);
  }

  /** Siding of so much where the second one stands when the first one comes in. */
  private static int foulsOf(int siding, int comes, int stands) {
    SidingLine x = new SidingLine();
    x.siding(1, siding);
    x.train(REGULAR, 0, 2, comes, 0);
    x.train(EXTRA, 1, 0, stands, 0);
    return x.fouls();
  }

  private static void foulsOfTwo() {
    says("A FOUL: a TRAIN comes in (not off, not at its TIME) to a STATION where others are AT, and there are two others"
        + " at least, or neither it nor the other one is at most as long as the SIDING.");
    for (int siding : new int[] {1, 10, 29}) {
      due("both are as long", foulsOf(siding, siding, siding), 0);
      due("the one that comes is longer", foulsOf(siding, siding + 1, siding), 0);
      due("the one that stands is longer", foulsOf(siding, siding, siding + 1), 0);
      due("both are longer", foulsOf(siding, siding + 1, siding + 1), 1);
    }
    due("no siding", foulsOf(0, 1, 1), 1);
    due("the longest of all", foulsOf(30, 30, 30), 0);
    SidingLine x = new SidingLine();
    x.siding(1, 0);
    x.train(REGULAR, 0, 2, 30, 0);
    due("none is there", x.fouls(), 0);
    x.train(EXTRA, 2, 0, 30, 0);
    due("none where it goes off", x.fouls(), 0);
    x.siding(2, 0);
    due("though there is no siding there", x.fouls(), 0);
    SidingLine y = new SidingLine();
    y.siding(0, 0);
    for (int t = 0; t < 5; t++) y.train(EXTRA, 0, 2, 30, t);
    due("at their times there are none", y.fouls(), 0);
  }

  private static void foulsOfThree() {
    SidingLine x = new SidingLine();
    x.siding(1, 30);
    x.train(REGULAR, 0, 2, 1, 0);
    x.train(EXTRA, 1, 0, 1, 0);
    due("one other", x.fouls(), 0);
    x.train(EXTRA, 1, 0, 1, 0);
    due("two others", x.fouls(), 1);
    x.train(EXTRA, 1, 2, 1, 0);
    due("three others: one foul", x.fouls(), 1);
    SidingLine y = new SidingLine();
    y.train(REGULAR, 0, 2, 8, 0);
    y.train(REGULAR, 2, 0, 8, 0);
    y.train(REGULAR, 2, 0, 8, 0);
    y.force(1, 0);
    y.force(2, 0);
    due("three in one minute: the third one has two others", y.fouls(), 1);
    y.siding(1, 7);
    due("the second one has one other, and both are too long", y.fouls(), 2);
  }

  private static void foulsInTheirMinute() {
    SidingLine x = new SidingLine();
    x.siding(1, 5);
    x.train(REGULAR, 0, 2, 8, 0);
    x.train(REGULAR, 1, 2, 8, 5);
    x.wait(1, 1, 10);
    give(x, 0, 1, 0);
    due("one that leaves in that minute is still there", x.fouls(), 1);
    x.undo();
    x.undo();
    x.wait(1, 1, 9);
    give(x, 0, 1, 0);
    due("it left a minute ago", x.fouls(), 0);
    x.time(1, 10);
    due("it is not there yet when the others come in", x.fouls(), 0);
    SidingLine y = new SidingLine();
    y.siding(1, 5);
    y.train(EXTRA, 0, 2, 8, 0);
    y.train(EXTRA, 1, 0, 8, 0);
    y.force(0, 490);
    due("in the last minute", y.fouls(), 1);
    y.undo();
    y.force(0, 491);
    due("not any more", y.fouls(), 0);
    SidingLine z = new SidingLine();
    z.siding(1, 5);
    z.train(WORK, 0, 1, 8, 0);
    z.force(0, 0);
    z.train(EXTRA, 1, 0, 8, 0);
    due("a work that turns comes in", z.fouls(), 1);
    z.force(0, 10);
    z.siding(0, 0);
    z.train(EXTRA, 0, 2, 8, 15);
    due("and goes off without one", z.fouls(), 1);
  }

  private static void delays() {
    says("DELAY: for each TRAIN the minute at which it goes off less when it is DUE at its last STATION (a WORK: TIME"
        + " and twice its way); 1000 for one that did not go off; all together.");
    for (int kind = 0; kind < 4; kind++) {
      SidingLine x = new SidingLine();
      x.section(0, 30);
      x.train(kind, 0, 1, 8, 20);
      int trips = kind == WORK ? 2 : 1;
      x.force(0, 21);
      x.force(0, 51);
      due("kind " + kind + ", a minute", x.delay(), kind == REGULAR || kind == MAIL ? 0 : 1);
      x.undo();
      x.undo();
      x.late(0, 1);
      x.run(0, 21);
      give(x, 0, 0, 0);
      give(x, 1, 0, 0);
      due("kind " + kind + ", by its papers", x.delay(), 1);
      due("it went off", x.where(0, 21 + 30 * trips), OFF);
      due("not ahead of that", x.where(0, 20 + 30 * trips), 100);
    }
    SidingLine y = new SidingLine();
    y.train(EXTRA, 0, 1, 8, 0);
    y.force(0, 490);
    due("off in the last minute", y.delay(), 490);
    y.undo();
    y.force(0, 491);
    due("not off", y.delay(), 1000);
    for (int t = 1; t < 5; t++) y.train(EXTRA, 0, 1, 8, 0);
    due("none of five", y.delay(), 5000);
    y.force(1, 3);
    due("one of five", y.delay(), 4003);
  }

  private static void causes() {
    says("CAUSE of the first HEAD ON (the least minute, of these the least pair, by the lesser, then the greater"
        + " number): the least ORDER that is a MEET of both, or a LATE, WAIT or RUN of either, and that one of the two"
        + " HELD, the other not, in the minute in which the later one of the two left for the SECTION.");
    for (int holder = 0; holder < 2; holder++) {
      for (int form = 0; form < 4; form++) {
        for (int of = 0; of < 2; of++) {
          SidingLine x = headOn();
          x.force(0, 10);
          int k = aboutTheTwo(x, form, of);
          String what = "form " + form + " of " + of + ", held by " + holder;
          due(what + ", never", x.cause(), NONE);
          give(x, k, holder, 11);
          due(what + ", a minute late", x.cause(), NONE);
          give(x, k, holder, 10);
          due(what + ", in that minute", x.cause(), k);
          give(x, k, 1 - holder, 11);
          due(what + ", the other one later", x.cause(), k);
          give(x, k, 1 - holder, 10);
          due(what + ", both", x.cause(), NONE);
          due(what + ", there is a head on", x.heads(), 1);
        }
      }
    }
    leastCause();
  }

  /** One that does not keep the two from meeting, as both are forced: a wait where one goes off, a regular's run. */
  private static int aboutTheTwo(SidingLine x, int form, int of) {
    switch (form) {
      case 0:
        return x.meet(of, 1 - of, of == 0 ? 2 : 0);
      case 1:
        return x.late(of, 120);
      case 2:
        return x.wait(of, of == 0 ? 2 : 0, 400);
      default:
        return x.run(of, 400);
    }
  }

  private static void leastCause() {
    SidingLine x = headOn();
    x.train(EXTRA, 2, 1, 8, 300);
    x.run(2, 0);
    x.meet(0, 2, 0);
    x.annul(0);
    x.run(1, 0);
    x.run(0, 0);
    for (int k = 0; k < 3; k++) give(x, k, 1, 0);
    due("a third one's, and annuls", x.cause(), NONE);
    give(x, 4, 1, 0);
    due("the greater order", x.cause(), 4);
    give(x, 3, 0, 0);
    due("the least order", x.cause(), 3);
    x.annul(3);
    give(x, 5, 0, 11);
    due("annulled too late", x.cause(), 3);
    give(x, 5, 0, 10);
    due("annulled in that minute", x.cause(), 4);
  }

  private static void where() {
    says("Where a TRAIN is behind a minute (0 to 500): the STATION at which it is; 100 and the SECTION in which it is;"
        + " 200: not on the line yet; 300: off.");
    SidingLine x = lineOf(7);
    x.train(REGULAR, 0, 6, 8, 1);
    x.train(EXTRA, 6, 0, 8, 300);
    due("minute 0", x.where(0, 0), 200);
    for (int i = 0; i < 6; i++) due("section " + i, x.where(0, 1 + 10 * i), 100 + i);
    for (int i = 0; i < 6; i++) due("to its end " + i, x.where(0, 10 + 10 * i), 100 + i);
    due("off", x.where(0, 61), 300);
    due("off, last minute", x.where(0, 500), 300);
    due("not on the line", x.where(1, 299), 200);
    due("the greatest station", x.where(1, 300), 6);
    due("last minute", x.where(1, 500), 6);
    x.run(1, 400);
    give(x, 0, 1, 0);
    for (int i = 0; i < 6; i++) due("down, section " + (5 - i), x.where(1, 400 + 10 * i), 105 - i);
    due("down, off", x.where(1, 460), 300);
    aShorterDay();
    says("BEYOND.");
    beyondOutside("train", 0, 1, v -> x.where(v, 5));
    beyondOutside("minute", 0, 500, v -> x.where(0, v));
    due("no train at all", new SidingLine().where(0, 0), BEYOND);
  }

  /** Behind a line that changed nothing of the longer day is left. */
  private static void aShorterDay() {
    SidingLine x = new SidingLine();
    x.train(EXTRA, 0, 1, 8, 0);
    x.force(0, 100);
    due("it stands", x.where(0, 99), 0);
    due("it goes", x.where(0, 109), 100);
    x.undo();
    x.force(0, 0);
    for (int minute = 10; minute < 120; minute++) {
      due("off in " + minute, x.where(0, minute), OFF);
      due("none in " + minute, x.why(0, minute), NONE);
    }
  }

  private static void came() {
    says("The minute in which a TRAIN came to a STATION first (its TIME at FROM).");
    SidingLine x = lineOf(5);
    x.train(WORK, 1, 3, 8, 300);
    x.run(0, 0);
    give(x, 0, 0, 0);
    due("FROM", x.came(0, 1), 300);
    due("there, not back", x.came(0, 2), 310);
    due("TO", x.came(0, 3), 320);
    x.time(0, 0);
    due("minute 0", x.came(0, 1), 0);
    says("BEYOND.");
    beyondOutside("train", 0, 0, v -> x.came(v, 1));
    beyondOutside("station", 0, 4, v -> x.came(0, v));
    due("no train at all", new SidingLine().came(0, 0), BEYOND);
    says("NONE: it did not.");
    due("ahead of FROM", x.came(0, 0), NONE);
    due("behind TO", x.came(0, 4), NONE);
    SidingLine y = new SidingLine();
    y.train(EXTRA, 0, 1, 8, 0);
    due("it never left", y.came(0, 1), NONE);
    y.force(0, 491);
    due("the day is over", y.came(0, 1), NONE);
    y.force(0, 490);
    due("in the last minute", y.came(0, 1), 500);
  }

  private static void left() {
    says("The minute in which it left a STATION first.");
    SidingLine x = lineOf(5);
    x.train(WORK, 1, 3, 8, 0);
    x.run(0, 0);
    give(x, 0, 0, 0);
    due("FROM, in minute 0", x.left(0, 1), 0);
    due("there, not back", x.left(0, 2), 10);
    due("TO, where it turns", x.left(0, 3), 20);
    says("BEYOND.");
    beyondOutside("train", 0, 0, v -> x.left(v, 1));
    beyondOutside("station", 0, 4, v -> x.left(0, v));
    due("no train at all", new SidingLine().left(0, 0), BEYOND);
    says("NONE: it did not.");
    due("ahead of FROM", x.left(0, 0), NONE);
    due("behind TO", x.left(0, 4), NONE);
    x.train(REGULAR, 0, 1, 8, 100);
    due("TO, where it goes off", x.left(1, 1), NONE);
    SidingLine y = new SidingLine();
    y.train(EXTRA, 0, 1, 8, 0);
    due("it never left", y.left(0, 0), NONE);
    y.force(0, 500);
    due("in the last minute", y.left(0, 0), 500);
  }

  private static void why() {
    says("WHY a TRAIN may not leave in a minute; 0: it leaves (FORCED ones too).");
    SidingLine x = new SidingLine();
    x.train(EXTRA, 0, 2, 8, 0);
    due("in minute 0", x.why(0, 0), 1);
    due("in minute 500", x.why(0, 500), 1);
    x.force(0, 500);
    due("forced in 500", x.why(0, 500), 0);
    due("not in 499", x.why(0, 499), 1);
    x.force(0, 0);
    due("forced in 0", x.why(0, 0), 0);
    says("BEYOND.");
    beyondOutside("train", 0, 1, v -> twoRegulars().why(v, 0));
    beyondOutside("minute", 0, 500, v -> x.why(0, v));
    due("no train at all", new SidingLine().why(0, 0), BEYOND);
    says("NONE: it is AT no STATION when it could leave.");
    SidingLine y = new SidingLine();
    y.train(REGULAR, 0, 1, 8, 5);
    due("ahead of its time", y.why(0, 4), NONE);
    due("it leaves", y.why(0, 5), 0);
    due("in the section", y.why(0, 6), NONE);
    due("to its end", y.why(0, 14), NONE);
    due("off as it comes", y.why(0, 15), NONE);
    due("off", y.why(0, 500), NONE);
  }

  private static void heads() {
    says("How many pairs are HEAD ON (each once a DAY).");
    SidingLine x = lineOf(2);
    x.train(WORK, 0, 1, 8, 0);
    x.train(WORK, 1, 0, 8, 0);
    for (int minute = 0; minute <= 10; minute += 10) {
      x.force(0, minute);
      x.force(1, minute);
    }
    due("one pair twice", x.heads(), 1);
    due("the first time", x.head(0), 0);
    due("no delay by it", x.delay(), 0);
    x.undo();
    x.undo();
    x.undo();
    due("none", x.heads(), 0);
    SidingLine y = lineOf(2);
    for (int t = 0; t < 5; t++) y.train(EXTRA, t % 2, 1 - t % 2, 8, 0);
    for (int t = 0; t < 5; t++) y.force(t, 5);
    due("three against two", y.heads(), 6);
    SidingLine z = new SidingLine();
    z.train(EXTRA, 0, 1, 8, 0);
    z.train(EXTRA, 0, 1, 8, 0);
    z.train(EXTRA, 1, 0, 8, 0);
    z.train(EXTRA, 1, 2, 8, 0);
    for (int t = 0; t < 3; t++) z.force(t, 5);
    due("two pairs", z.heads(), 2);
    z.force(3, 7);
    due("two pairs, though one more leaves while they are there", z.heads(), 2);
  }

  private static void head() {
    says("Of the first HEAD ON: 0 the minute, 1 the SECTION, 2 the lesser TRAIN, 3 the greater one.");
    SidingLine x = lineOf(7);
    x.train(EXTRA, 6, 5, 8, 0);
    x.train(EXTRA, 0, 1, 8, 0);
    x.train(EXTRA, 1, 0, 8, 0);
    x.train(EXTRA, 5, 6, 8, 0);
    x.train(EXTRA, 5, 6, 8, 0);
    x.force(1, 4);
    x.force(2, 4);
    dueRow("the least section", x::head, 4, 0, 1, 2);
    x.force(0, 4);
    x.force(4, 4);
    dueRow("of one minute the lesser train, in the greatest section", x::head, 4, 5, 0, 4);
    x.force(3, 4);
    dueRow("of one lesser train the greater one", x::head, 4, 5, 0, 3);
    due("pairs", x.heads(), 3);
    x.force(2, 3);
    dueRow("still, as the other one left in 4", x::head, 4, 5, 0, 3);
    x.undo();
    x.undo();
    x.undo();
    x.undo();
    x.force(0, 3);
    x.force(3, 3);
    x.force(1, 2);
    x.force(2, 2);
    dueRow("the least minute ahead of the least pair", x::head, 2, 0, 1, 2);
    says("NONE: there is none.");
    due("no trains", new SidingLine().head(0), NONE);
    for (int what = 0; what < 4; what++) due("what " + what, twoRegulars().head(what), NONE);
    due("ahead of BEYOND", twoRegulars().head(4), NONE);
    due("ahead of BEYOND, -1", twoRegulars().head(-1), NONE);
    says("BEYOND: another what.");
    beyondOutside("what", 0, 3, what -> headOn().head(what));
  }

  private static void cause() {
    says("CAUSE.");
    SidingLine x = headOn();
    for (int k = 0; k < 11; k++) x.annul(x.all(2) == 0 ? x.late(0, 1) : 0);
    x.undo();
    x.run(1, 0);
    give(x, 11, 0, 0);
    due("the greatest order that can be", x.cause(), 11);
    SidingLine y = headOn();
    y.run(1, 0);
    give(y, 0, 0, 0);
    due("the least one", y.cause(), 0);
    says("NONE: there is no HEAD ON, or no such ORDER.");
    due("no trains", new SidingLine().cause(), NONE);
    due("no head on", twoRegulars().cause(), NONE);
    due("no order", headOn().cause(), NONE);
    y.hand(0, 1, 0);
    due("both hold it", y.cause(), NONE);
    due("each was counted", y.all(4), 1);
  }

  private static void fouls() {
    says("How many FOULS.");
    SidingLine x = lineOf(7);
    for (int s = 0; s < 7; s++) x.siding(s, 0);
    x.train(REGULAR, 0, 6, 8, 0);
    x.train(REGULAR, 0, 6, 8, 10);
    due("none stands", x.fouls(), 0);
    x.train(EXTRA, 3, 0, 8, 0);
    due("each of two at one", x.fouls(), 2);
    x.train(EXTRA, 5, 0, 8, 0);
    due("each of two at two", x.fouls(), 4);
    x.train(EXTRA, 6, 0, 8, 0);
    due("none where they go off", x.fouls(), 4);
    due("no trains", new SidingLine().fouls(), 0);
  }

  private static void delay() {
    says("DELAY.");
    due("no trains", new SidingLine().delay(), 0);
    SidingLine x = lineOf(7);
    for (int i = 0; i < 6; i++) x.section(i, 30);
    x.train(REGULAR, 0, 6, 8, 300);
    due("the longest way, on time", x.delay(), 0);
    x.late(0, 20);
    give(x, 0, 0, 0);
    due("as late as can be", x.delay(), 20);
    x.late(0, 1);
    give(x, 1, 0, 0);
    due("a minute later it is not off", x.delay(), 1000);
    SidingLine y = lineOf(7);
    for (int i = 0; i < 6; i++) y.section(i, 30);
    y.train(WORK, 6, 0, 8, 140);
    y.run(0, 0);
    give(y, 0, 0, 0);
    due("a work, twice the longest way", y.delay(), 0);
    y.time(0, 141);
    due("a minute later it is not off", y.delay(), 1000);
  }
}
