/** Edges of promises 1 to 10, and of what Terms tells of stations and trains. */
final class LineEdges extends Edges {
  static void check() {
    promise(TERMS);
    findings();
    order();
    termsOfStations();
    termsOfTrains();
    superiors();
    promise(1);
    newObject();
    promise(2);
    stations();
    stationsTaken();
    promise(3);
    sidings();
    promise(4);
    sections();
    promise(5);
    trains();
    promise(6);
    as();
    promise(7);
    of();
    promise(8);
    times();
    promise(9);
    dues();
    promise(10);
    over();
  }

  private static void findings() {
    says("FINDINGS are answers below -99999: -100001 BEYOND, -100002 MISSING, -100003 SIZE, -100004 KIND, -100005 FULL,"
        + " -100006 NONE, -100007 TAKEN.");
    SidingLine x = new SidingLine();
    due("BEYOND", x.stations(8), -100001);
    due("MISSING", x.put(0, 0, 0), -100002);
    due("SIZE", x.train(0, 1, 1, 1, 0), -100003);
    x.train(EXTRA, 0, 2, 1, 0);
    due("KIND", x.as(0, MAIL), -100004);
    for (int i = 0; i < 6; i++) x.force(0, i);
    due("FULL", x.force(0, 6), -100005);
    due("NONE", x.head(0), -100006);
    due("TAKEN", x.stations(2), -100007);
    due("each was counted", x.all(4), 7);
  }

  private static void order() {
    says("Each act tells its findings in the order in which they are asked; an act that answers a finding changes"
        + " nothing.");
    SidingLine x = twoRegulars();
    due("stations: BEYOND, TAKEN", x.stations(1), BEYOND);
    for (int i = 0; i < 3; i++) x.train(EXTRA, 0, 2, 1, 0);
    due("train: BEYOND, SIZE, FULL", x.train(4, 1, 1, 1, 0), BEYOND);
    due("train: SIZE, FULL", x.train(3, 1, 1, 1, 0), SIZE);
    due("train: FULL", x.train(3, 1, 2, 1, 0), FULL);
    fillOrders(x);
    due("meet: BEYOND, SIZE, FULL", x.meet(0, 0, 3), BEYOND);
    due("meet: SIZE, FULL", x.meet(0, 0, 2), SIZE);
    due("meet: FULL", x.meet(0, 1, 2), FULL);
    due("head: NONE, BEYOND", x.head(4), NONE);
    due("proves: BEYOND, SIZE, MISSING, KIND", x.proves(0, 0, 0, 4), BEYOND);
    due("proves: SIZE, MISSING, KIND", x.proves(0, 0, 0, 0), SIZE);
    due("proves: MISSING, KIND", x.proves(0, 1, 0, 0), MISSING);
    x.sheet(0, 8, 1);
    due("proves: KIND", x.proves(0, 1, 0, 0), KIND);
    due("sheet: BEYOND, SIZE", x.sheet(0, 9, -1), BEYOND);
    due("put: MISSING, BEYOND", x.put(1, -1, 0), MISSING);
    due("copy: MISSING, KIND, BEYOND", x.copy(0, -1, 1, 0, 1), MISSING);
    x.sheet(1, 16, 1);
    due("copy: KIND, BEYOND", x.copy(0, -1, 1, 0, 1), KIND);
    due("nothing changed: stations", x.all(0), 3);
    due("nothing changed: trains", x.all(1), 5);
    due("nothing changed: orders", x.all(2), 12);
  }

  private static void termsOfStations() {
    says("STATIONS are 0 to n - 1 (n 2 to 7; 3 at first), each with a SIDING of a LENGTH (0 to 30; 10 at first).");
    for (int n = 2; n <= 7; n++) {
      SidingLine x = lineOf(n);
      for (int s = 0; s < n; s++) due(n + " stations, siding " + s, x.siding(s, 30 - s), 10);
      for (int s = 0; s < n; s++) due(n + " stations, siding " + s + " now", x.siding(s, 0), 30 - s);
      due(n + " stations, one below", x.siding(-1, 0), BEYOND);
      due(n + " stations, one too many", x.siding(n, 0), BEYOND);
    }
    says("SECTION i, between STATIONS i and i + 1, takes so many MINUTES (1 to 30; 10 at first).");
    for (int n = 2; n <= 7; n++) {
      SidingLine x = lineOf(n);
      for (int i = 0; i < n - 1; i++) due(n + " stations, section " + i, x.section(i, i + 1), 10);
      x.train(REGULAR, 0, n - 1, 1, 0);
      for (int i = 0; i < n - 1; i++) due("up to " + i, x.due(0, i + 1) - x.due(0, i), i + 1);
      due(n + " stations, one below", x.section(-1, 1), BEYOND);
      due(n + " stations, one too many", x.section(n - 1, 1), BEYOND);
    }
    says("WAYS: 0 (to higher STATIONS), 1 (to lower ones).");
    SidingLine x = lineOf(7);
    x.train(EXTRA, 5, 6, 1, 0);
    x.train(EXTRA, 1, 0, 1, 0);
    x.train(EXTRA, 0, 6, 1, 0);
    x.train(EXTRA, 6, 0, 1, 0);
    for (int t = 0; t < 4; t++) due("way of " + t, x.of(t, 5), t % 2);
  }

  private static void termsOfTrains() {
    says("TRAINS 0, 1, .. (at most 5) are of a kind: 0 EXTRA, 1 REGULAR under it, 2 MAIL under REGULAR, 3 WORK under"
        + " EXTRA; each goes FROM a STATION TO another one (its WAY is that), has a LENGTH (1 to 30) and a TIME (0 to"
        + " 300).");
    SidingLine x = lineOf(2);
    for (int t = 0; t < 5; t++) due("train " + t, x.train(t % 4, t % 2, 1 - t % 2, 1 + 29 * (t % 2), 300), t);
    due("no sixth one", x.train(EXTRA, 0, 1, 1, 0), FULL);
    for (int t = 0; t < 5; t++) dueRow(t + " told", told(x, t), t % 4, t % 2, 1 - t % 2, 1 + 29 * (t % 2), 300, t % 2);
    says("It is at FROM from its TIME on (not at the line ahead of it).");
    for (int time : new int[] {0, 1, 299, 300}) {
      SidingLine y = new SidingLine();
      y.train(EXTRA, 1, 2, 1, time);
      if (time > 0) due("ahead of " + time, y.where(0, time - 1), NOT_YET);
      if (time > 0) due("why ahead of " + time, y.why(0, time - 1), NONE);
      due("in " + time, y.where(0, time), 1);
      due("why in " + time, y.why(0, time), 1);
      due("came in " + time, y.came(0, 1), time);
    }
    says("DUE at a STATION of its way: TIME and the MINUTES of all SECTIONS from FROM to there.");
    SidingLine z = lineOf(7);
    for (int i = 0; i < 6; i++) z.section(i, 30);
    z.train(REGULAR, 0, 6, 1, 300);
    z.train(REGULAR, 6, 0, 1, 0);
    for (int s = 0; s < 7; s++) due("latest, up, at " + s, z.due(0, s), 300 + 30 * s);
    for (int s = 0; s < 7; s++) due("latest, down, at " + s, z.due(1, s), 180 - 30 * s);
  }

  private static java.util.function.IntUnaryOperator told(SidingLine x, int train) {
    return what -> x.of(train, what);
  }

  private static void superiors() {
    says("SUPERIOR to a TRAIN of the contrary WAY: MAILS to all but MAILS; REGULARS to EXTRAS and WORKS; of those else"
        + " WAY 0 to WAY 1.");
    int[] class0 = {0, 1, 2, 0};
    for (int up = 0; up < 4; up++) {
      for (int down = 0; down < 4; down++) {
        SidingLine x = new SidingLine();
        x.train(down, 1, 0, 1, 0);
        x.train(up, 1, 2, 1, 0);
        int want = class0[up] >= class0[down] ? 1 : 0;
        due(up + " going up over " + down, x.over(1, 0), want);
        due(down + " going down over " + up, x.over(0, 1), 1 - want);
      }
    }
  }

  private static void newObject() {
    says("3 STATIONS as told; no TRAINS, no ORDERS, nothing FORCED; sheets MISSING.");
    SidingLine other = lineOf(7);
    other.train(EXTRA, 6, 0, 1, 0);
    other.run(0, 0);
    other.force(0, 0);
    other.sheet(0, 8, 1);
    other.siding(0, 1);
    other.all(9);
    SidingLine x = new SidingLine();
    dueRow("all", x::all, 3, 0, 0, 0, 0);
    for (int s = 0; s < 3; s++) due("siding " + s, x.siding(s, 1), 10);
    for (int i = 0; i < 2; i++) due("section " + i, x.section(i, 1), 10);
    due("no fourth station", x.siding(3, 1), BEYOND);
    due("no third section", x.section(2, 1), BEYOND);
    due("no train 0", x.of(0, 0), BEYOND);
    due("no order 0", x.order(0, 0), BEYOND);
    for (int s = 0; s < 4; s++) due("sheet " + s, x.grades(s), MISSING);
    for (int more = 4; more >= 0; more--) due("undo", x.undo(), more);
    due("nothing to undo", x.undo(), NONE);
    SidingLine y = new SidingLine();
    due("nothing to undo at first", y.undo(), NONE);
    due("no head on", y.heads(), 0);
    due("no foul", y.fouls(), 0);
    due("no delay", y.delay(), 0);
  }

  private static void stations() {
    says("There are n STATIONS: how many there were.");
    for (int was = 2; was <= 7; was++) {
      for (int n = 2; n <= 7; n++) {
        SidingLine x = lineOf(was);
        due("from " + was + " to " + n, x.stations(n), was);
        due("there are", x.all(0), n);
        due("a train to the last one", x.train(EXTRA, 0, n - 1, 1, 0), 0);
        due("none to the one behind", x.train(EXTRA, 0, n, 1, 0), BEYOND);
      }
    }
    says("BEYOND.");
    beyondOutside("n", 2, 7, n -> new SidingLine().stations(n));
    due("0", new SidingLine().stations(0), BEYOND);
  }

  private static void stationsTaken() {
    says("TAKEN: a TRAIN, or an ORDER, has one that would not be.");
    for (int has = 2; has <= 6; has++) {
      for (int how = 0; how < 4; how++) {
        SidingLine x = taking(has, how);
        due("way " + how + " has " + has, x.stations(has), TAKEN);
        due("so 2 are too few", x.stations(2), TAKEN);
        due("but 1 is BEYOND", x.stations(1), BEYOND);
        due("nothing changed", x.all(0), 7);
        due("it may stay", x.stations(has + 1), 7);
        due("more are never taken", x.stations(7), has + 1);
        while (x.all(1) > 0) x.undo();
        due("with no train there", x.stations(2), 7);
      }
    }
    SidingLine y = lineOf(7);
    y.train(EXTRA, 0, 1, 30, 300);
    y.late(0, 120);
    y.run(0, 400);
    for (int k = 2; k < 12; k++) y.annul(k - 1);
    due("LATE, RUN, ANNUL have none", y.stations(2), 7);
    SidingLine z = lineOf(7);
    z.train(EXTRA, 0, 1, 1, 0);
    z.wait(0, 6, 0);
    z.annul(0);
    give(z, 0, 0, 0);
    give(z, 1, 0, 0);
    due("an annulled one has it still", z.stations(6), TAKEN);
  }

  /** Seven stations, of which a train's FROM or TO, a MEET or a WAIT has one. */
  private static SidingLine taking(int has, int how) {
    SidingLine x = lineOf(7);
    if (how == 0) x.train(EXTRA, has, 0, 1, 0);
    if (how == 1) x.train(EXTRA, 0, has, 1, 0);
    if (how >= 2) {
      x.train(EXTRA, 0, 1, 1, 0);
      x.train(EXTRA, 1, 0, 1, 0);
    }
    if (how == 2) x.meet(1, 0, has);
    if (how == 3) x.wait(1, has, 400);
    return x;
  }

  private static void sidings() {
    says("LENGTH of a SIDING becomes v: what it was.");
    SidingLine x = new SidingLine();
    due("30", x.siding(2, 30), 10);
    due("0", x.siding(2, 0), 30);
    due("0 again", x.siding(2, 0), 0);
    due("another one stays", x.siding(1, 0), 10);
    says("BEYOND.");
    beyondOutside("station", 0, 2, s -> new SidingLine().siding(s, 5));
    beyondOutside("v", 0, 30, v -> new SidingLine().siding(0, v));
    beyondOutside("station of 2", 0, 1, s -> lineOf(2).siding(s, 5));
    beyondOutside("station of 7", 0, 6, s -> lineOf(7).siding(s, 5));
    due("both", x.siding(3, 31), BEYOND);
    due("nothing changed", x.siding(2, 7), 0);
  }

  private static void sections() {
    says("MINUTES of a SECTION become v: what they were.");
    SidingLine x = new SidingLine();
    due("30", x.section(1, 30), 10);
    due("1", x.section(1, 1), 30);
    due("1 again", x.section(1, 1), 1);
    due("another one stays", x.section(0, 1), 10);
    says("BEYOND.");
    beyondOutside("section", 0, 1, i -> new SidingLine().section(i, 5));
    beyondOutside("v", 1, 30, v -> new SidingLine().section(0, v));
    beyondOutside("section of 2", 0, 0, i -> lineOf(2).section(i, 5));
    beyondOutside("section of 7", 0, 5, i -> lineOf(7).section(i, 5));
    due("both", x.section(2, 0), BEYOND);
    due("nothing changed", x.section(1, 7), 1);
  }

  private static void trains() {
    says("A new TRAIN: its number.");
    SidingLine x = new SidingLine();
    for (int t = 0; t < 5; t++) due("number", x.train(EXTRA, 0, 2, 1, 0), t);
    x.undo();
    x.undo();
    due("the number of one that was undone", x.train(EXTRA, 0, 2, 1, 0), 3);
    says("BEYOND: kind, STATIONS, LENGTH, TIME.");
    beyondOutside("kind", 0, 3, v -> new SidingLine().train(v, 0, 1, 1, 0));
    beyondOutside("from", 0, 2, v -> new SidingLine().train(0, v, 1, 1, 0));
    beyondOutside("to", 0, 2, v -> new SidingLine().train(0, 1, v, 1, 0));
    beyondOutside("length", 1, 30, v -> new SidingLine().train(0, 0, 1, v, 0));
    beyondOutside("time", 0, 300, v -> new SidingLine().train(0, 0, 1, 1, v));
    due("FROM and TO are one that is not there", x.train(0, 3, 3, 1, 0), BEYOND);
    says("SIZE: FROM is TO.");
    for (int s = 0; s < 3; s++) due("at " + s, x.train(0, s, s, 1, 0), SIZE);
    says("FULL: there are 5.");
    due("the fifth", x.train(WORK, 2, 0, 30, 300), 4);
    for (int kind = 0; kind < 4; kind++) due("a sixth of kind " + kind, x.train(kind, 0, 1, 1, 0), FULL);
    due("there are 5", x.all(1), 5);
    due("no train 5", x.of(5, 0), BEYOND);
    x.undo();
    due("one less, then one more", x.train(MAIL, 0, 1, 1, 0), 4);
  }

  private static void as() {
    SidingLine x = new SidingLine();
    for (int kind = 0; kind < 4; kind++) x.train(kind, 0, 2, 1, 0);
    says("A TRAIN as one of a kind: its number.");
    for (int kind = 0; kind < 4; kind++) due("its own kind " + kind, x.as(kind, kind), kind);
    for (int kind = 0; kind < 4; kind++) due("all are extras " + kind, x.as(kind, EXTRA), kind);
    due("a mail is a regular", x.as(2, REGULAR), 2);
    says("BEYOND: no such TRAIN, or kind.");
    beyondOutside("train", 0, 3, t -> x.as(t, EXTRA));
    beyondOutside("kind", 0, 3, kind -> x.as(0, kind));
    due("no train at all", new SidingLine().as(0, 0), BEYOND);
    says("KIND: it is not of that kind, nor of one under it.");
    due("an extra is no regular", x.as(0, REGULAR), KIND);
    due("an extra is no mail", x.as(0, MAIL), KIND);
    due("an extra is no work", x.as(0, WORK), KIND);
    due("a regular is no mail", x.as(1, MAIL), KIND);
    due("a regular is no work", x.as(1, WORK), KIND);
    due("a mail is no work", x.as(2, WORK), KIND);
    due("a work is no regular", x.as(3, REGULAR), KIND);
    due("a work is no mail", x.as(3, MAIL), KIND);
  }

  private static void of() {
    SidingLine x = new SidingLine();
    x.train(EXTRA, 0, 2, 1, 0);
    x.train(WORK, 2, 1, 30, 300);
    says("Of a TRAIN: 0 its kind, 1 FROM, 2 TO, 3 LENGTH, 4 TIME, 5 WAY.");
    dueRow("the least", told(x, 0), 0, 0, 2, 1, 0, 0);
    dueRow("the greatest", told(x, 1), 3, 2, 1, 30, 300, 1);
    says("BEYOND: no such TRAIN, or another what.");
    beyondOutside("train", 0, 1, t -> x.of(t, 0));
    beyondOutside("what", 0, 5, what -> x.of(0, what));
    due("no train at all", new SidingLine().of(0, 0), BEYOND);
  }

  private static void times() {
    SidingLine x = twoRegulars();
    says("TIME of a TRAIN becomes v: what it was.");
    due("300", x.time(0, 300), 0);
    due("told", x.of(0, 4), 300);
    due("due", x.due(0, 2), 320);
    due("came", x.came(0, 0), 300);
    due("0", x.time(0, 0), 300);
    due("0 again", x.time(0, 0), 0);
    due("came again", x.came(0, 0), 0);
    due("another one stays", x.time(1, 7), 0);
    says("BEYOND.");
    beyondOutside("train", 0, 1, t -> twoRegulars().time(t, 5));
    beyondOutside("v", 0, 300, v -> twoRegulars().time(0, v));
    due("no train at all", new SidingLine().time(0, 0), BEYOND);
  }

  private static void dues() {
    SidingLine x = lineOf(6);
    for (int i = 0; i < 5; i++) x.section(i, 1 + i);
    x.train(MAIL, 1, 4, 1, 0);
    x.train(WORK, 4, 1, 1, 300);
    x.train(EXTRA, 0, 5, 1, 7);
    says("When a TRAIN is DUE at a STATION (on its way there).");
    int[] up = {0, 2, 5, 9};
    int[] down = {309, 307, 304, 300};
    for (int s = 1; s <= 4; s++) due("up at " + s, x.due(0, s), up[s - 1]);
    for (int s = 1; s <= 4; s++) due("down at " + s + ", there alone", x.due(1, s), down[s - 1]);
    due("at one end", x.due(2, 0), 7);
    due("at the other end", x.due(2, 5), 22);
    says("BEYOND.");
    beyondOutside("train", 0, 2, t -> x.due(t, 2));
    beyondOutside("station", 0, 5, s -> x.due(2, s));
    due("no train at all", new SidingLine().due(0, 0), BEYOND);
    says("NONE: the STATION is not on its way.");
    for (int t = 0; t < 2; t++) {
      due(t + " at 0", x.due(t, 0), NONE);
      due(t + " at 5", x.due(t, 5), NONE);
      due(t + " at 6", x.due(t, 6), BEYOND);
    }
  }

  private static void over() {
    says("Whether a TRAIN is SUPERIOR to another one: 1, 0.");
    SidingLine x = twoRegulars();
    due("up", x.over(0, 1), 1);
    due("down", x.over(1, 0), 0);
    says("BEYOND.");
    beyondOutside("train", 0, 1, t -> x.over(t, 0));
    beyondOutside("other", 0, 1, t -> x.over(0, t));
    due("no train at all", new SidingLine().over(0, 0), BEYOND);
    says("SIZE: they are of one WAY.");
    x.train(MAIL, 1, 2, 1, 0);
    x.train(WORK, 1, 0, 1, 0);
    due("both up", x.over(2, 0), SIZE);
    due("both down", x.over(1, 3), SIZE);
    for (int t = 0; t < 4; t++) due("itself " + t, x.over(t, t), SIZE);
  }
}
