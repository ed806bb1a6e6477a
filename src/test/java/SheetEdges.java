/** Edges of promises 32 to 37, and of what Terms tells of sheets. */
final class SheetEdges extends Edges {
  static void check() {
    promise(TERMS);
    termsOfSheets();
    promise(32);
    sheets();
    promise(33);
    puts();
    promise(34);
    copies();
    copiesBeyond();
    promise(35);
    grades();
    promise(36);
    undo();
    undoKept();
    undoGoesRound();
    undoOfEachAct();
    promise(37);
    all();
    manyCalls();
  }

  private static void termsOfSheets() {
    says("SHEETS 0 to 3 are rows of up to 60 numbers of 8, 16 or 32 bits, or MISSING (all, at first).");
    for (int s = 0; s < 4; s++) {
      for (int bits = 8; bits <= 32; bits *= 2) {
        SidingLine x = new SidingLine();
        due("missing at first, " + s, x.put(s, 0, 0), MISSING);
        due("of " + bits + " bits", x.sheet(s, bits, 60), 60);
        for (int i = 0; i < 60; i++) due("number " + i, x.put(s, i, -1), 0);
        due("number 60", x.put(s, 60, -1), BEYOND);
        for (int o = 0; o < 4; o++) if (o != s) due("another one is missing, " + o, x.put(o, 0, 0), MISSING);
      }
    }
  }

  /** What number i of a sheet is, of 1 to 30: as minutes of section 0; BEYOND: not one of these. */
  private static int number(SidingLine x, int s, int i, int bits) {
    int spare = s == 3 ? 2 : 3;
    x.sheet(spare, bits, 1);
    x.copy(s, i, spare, 0, 1);
    int used = x.grades(spare);
    return used == 1 ? x.section(0, 10) : used;
  }

  private static void sheets() {
    says("A sheet has n numbers, all 0, of 8, 16 or 32 bits; bits 0: it is MISSING: n (0).");
    SidingLine x = new SidingLine();
    for (int bits = 8; bits <= 32; bits *= 2) {
      for (int n : new int[] {0, 1, 60}) {
        due(n + " of " + bits, x.sheet(0, bits, n), n);
        due("no number behind them", x.put(0, n, 1), BEYOND);
        if (n > 0) due("all 0", number(x, 0, n - 1, bits), BEYOND);
        if (n > 0) x.put(0, n - 1, 7);
        if (n > 0) due("7 now", number(x, 0, n - 1, bits), 7);
        x.sheet(0, bits, n);
        if (n > 0) due("all 0 again", number(x, 0, n - 1, bits), BEYOND);
      }
    }
    for (int n : new int[] {0, 1, 60}) {
      x.sheet(0, 8, 1);
      due("bits 0, n " + n, x.sheet(0, 0, n), 0);
      due("missing", x.put(0, 0, 1), MISSING);
    }
    due("missing already", x.sheet(0, 0, 0), 0);
    says("BEYOND: no such sheet, or bits.");
    beyondOutside("sheet", 0, 3, s -> new SidingLine().sheet(s, 8, 1));
    for (int bits = -40; bits <= 70; bits++) {
      boolean can = bits == 0 || bits == 8 || bits == 16 || bits == 32;
      due(bits + " bits", new SidingLine().sheet(0, bits, 0), can ? 0 : BEYOND);
    }
    due("bits MIN", x.sheet(0, Integer.MIN_VALUE, 1), BEYOND);
    due("bits MAX", x.sheet(0, Integer.MAX_VALUE, 1), BEYOND);
    due("ahead of SIZE", x.sheet(4, 8, -1), BEYOND);
    due("bits ahead of SIZE", x.sheet(0, 1, -1), BEYOND);
    says("SIZE: n is below 0.");
    for (int n : new int[] {-1, -60, Integer.MIN_VALUE}) {
      for (int bits = 8; bits <= 32; bits *= 2) due(n + " of " + bits, x.sheet(0, bits, n), SIZE);
      due(n + " of a missing one", x.sheet(0, 0, n), SIZE);
    }
    due("n 0 is not", x.sheet(0, 8, 0), 0);
    says("BEYOND: n is above 60.");
    for (int n : new int[] {61, 256, Integer.MAX_VALUE}) {
      for (int bits = 8; bits <= 32; bits *= 2) due(n + " of " + bits, x.sheet(0, bits, n), BEYOND);
      due(n + " of a missing one", x.sheet(0, 0, n), BEYOND);
    }
    due("60 is not", x.sheet(0, 8, 60), 60);
  }

  private static void puts() {
    says("Number i of a sheet becomes v (its lowest bits): 0.");
    int[] lifts = {1 << 8, 1 << 16, 1 << 24, 1 << 31, -(1 << 8), -(1 << 16)};
    for (int bits = 8; bits <= 32; bits *= 2) {
      for (int lift : lifts) {
        SidingLine x = new SidingLine();
        x.sheet(0, bits, 1);
        due("answer", x.put(0, 0, 30 + lift), 0);
        boolean isLost = bits < 32 && lift % (1 << bits) == 0;
        due("30 and " + lift + " in " + bits + " bits", number(x, 0, 0, bits), isLost ? 30 : BEYOND);
      }
      SidingLine y = new SidingLine();
      y.sheet(0, bits, 60);
      y.put(0, 0, 1);
      y.put(0, 59, 30);
      due("first", number(y, 0, 0, bits), 1);
      due("last", number(y, 0, 59, bits), 30);
      due("others stay 0", number(y, 0, 58, bits), BEYOND);
      due("-1 is none of 1 to 30", y.put(0, 0, -1), 0);
      due("as all its bits are set", number(y, 0, 0, bits), BEYOND);
    }
    says("BEYOND: no such sheet.");
    beyondOutside("sheet", 0, 3, s -> new SidingLine().put(s, 0, 0));
    SidingLine z = new SidingLine();
    due("ahead of MISSING", z.put(4, -1, 0), BEYOND);
    says("MISSING.");
    for (int s = 0; s < 4; s++) due("sheet " + s, z.put(s, 0, 0), MISSING);
    due("ahead of BEYOND", z.put(0, -1, 0), MISSING);
    due("ahead of BEYOND, 60", z.put(0, 60, 0), MISSING);
    says("BEYOND: no such number.");
    beyondOutside("number of one", 0, 0, i -> sheetOf(1).put(0, i, 1));
    beyondOutside("number of sixty", 0, 59, i -> sheetOf(60).put(0, i, 1));
    due("of none", sheetOf(0).put(0, 0, 1), BEYOND);
    due("any v can be, MIN", sheetOf(1).put(0, 0, Integer.MIN_VALUE), 0);
    due("any v can be, MAX", sheetOf(1).put(0, 0, Integer.MAX_VALUE), 0);
  }

  private static SidingLine sheetOf(int n) {
    SidingLine x = new SidingLine();
    x.sheet(0, 8, n);
    return x;
  }

  /** Seven stations; sheet 0 is 1, 2, .. 6, sheet 1 has six of 20, of as many bits; sheet 2 is of others. */
  private static SidingLine rows() {
    SidingLine x = lineOf(7);
    x.sheet(0, 16, 6);
    x.sheet(1, 16, 6);
    x.sheet(2, 8, 6);
    for (int i = 0; i < 6; i++) {
      x.put(0, i, i + 1);
      x.put(1, i, 20);
    }
    return x;
  }

  private static void dueNumbers(String what, SidingLine x, int s, int... want) {
    due(what + ": how many", x.grades(s), want.length);
    for (int i = 0; i < want.length; i++) due(what + ": number " + i, x.section(i, 10), want[i]);
  }

  private static void copies() {
    says("n numbers of a sheet from one on come to another one from one on: n.");
    SidingLine x = rows();
    due("none", x.copy(0, 0, 1, 0, 0), 0);
    dueNumbers("none", x, 1, 20, 20, 20, 20, 20, 20);
    due("none from the end on to the end", x.copy(0, 6, 1, 6, 0), 0);
    due("the first to the last place", x.copy(0, 0, 1, 5, 1), 1);
    due("the last to the first place", x.copy(0, 5, 1, 0, 1), 1);
    dueNumbers("both", x, 1, 6, 20, 20, 20, 20, 1);
    due("all", x.copy(0, 0, 1, 0, 6), 6);
    dueNumbers("all", x, 1, 1, 2, 3, 4, 5, 6);
    due("onto itself", x.copy(0, 0, 0, 0, 6), 6);
    dueNumbers("onto itself", x, 0, 1, 2, 3, 4, 5, 6);
    due("up in itself", x.copy(0, 0, 0, 1, 5), 5);
    dueNumbers("up in itself", x, 0, 1, 1, 2, 3, 4, 5);
    due("down in itself", x.copy(1, 1, 1, 0, 5), 5);
    dueNumbers("down in itself", x, 1, 2, 3, 4, 5, 6, 6);
    says("BEYOND: no such sheet (either).");
    beyondOutside("from sheet", 0, 3, s -> rows().copy(s, 0, 1, 0, 1));
    beyondOutside("to sheet", 0, 3, s -> rows().copy(0, 0, s, 0, 1));
    due("ahead of MISSING", x.copy(3, 0, 4, 0, 1), BEYOND);
    says("MISSING: one is.");
    due("the one", x.copy(3, 0, 0, 0, 1), MISSING);
    due("the other one", x.copy(0, 0, 3, 0, 1), MISSING);
    due("both", x.copy(3, 0, 3, 0, 0), MISSING);
    due("ahead of BEYOND", x.copy(0, 0, 3, -1, 1), MISSING);
    says("KIND: they are not of as many bits.");
    due("16 and 8", x.copy(0, 0, 2, 0, 1), KIND);
    due("8 and 16", x.copy(2, 0, 0, 0, 1), KIND);
    due("none of them", x.copy(2, 0, 0, 0, 0), KIND);
    due("ahead of BEYOND", x.copy(2, 0, 0, 0, 7), KIND);
    x.sheet(3, 32, 6);
    due("32 and 16", x.copy(3, 0, 0, 0, 1), KIND);
  }

  private static void copiesBeyond() {
    says("BEYOND: one has not so many, or from, to or n is below 0.");
    int[] wild = {Integer.MIN_VALUE, -1, Integer.MAX_VALUE};
    for (int v : wild) {
      for (int n : new int[] {0, 1, Integer.MAX_VALUE}) {
        due("from " + v + ", n " + n, rows().copy(0, v, 1, 0, n), BEYOND);
        due("to " + v + ", n " + n, rows().copy(0, 0, 1, v, n), BEYOND);
      }
      due("n " + v, rows().copy(0, 0, 1, 0, v), BEYOND);
      due("n " + v + " from 6 on", rows().copy(0, 6, 1, 6, v), BEYOND);
    }
    for (int from = 0; from <= 7; from++) {
      for (int n = 0; n <= 7; n++) {
        int want = from + n <= 6 ? n : BEYOND;
        due(n + " from " + from + " on", rows().copy(0, from, 1, 0, n), want);
        due(n + " to " + from, rows().copy(0, 0, 1, from, n), want);
      }
    }
    SidingLine x = rows();
    x.copy(0, 0, 1, 5, 2);
    dueNumbers("nothing changed", x, 1, 20, 20, 20, 20, 20, 20);
    SidingLine y = new SidingLine();
    y.sheet(0, 32, 60);
    y.sheet(1, 32, 0);
    due("none to one that has none", y.copy(0, 60, 1, 0, 0), 0);
    due("one to one that has none", y.copy(0, 0, 1, 0, 1), BEYOND);
    due("one of none", y.copy(1, 0, 0, 0, 1), BEYOND);
    due("all of sixty", y.copy(0, 0, 0, 0, 60), 60);
    due("sixty-one of sixty", y.copy(0, 0, 0, 0, 61), BEYOND);
  }

  private static SidingLine gradesOf(int stations, int bits, int... numbers) {
    SidingLine x = lineOf(stations);
    x.sheet(0, bits, numbers.length);
    for (int i = 0; i < numbers.length; i++) x.put(0, i, numbers[i]);
    return x;
  }

  private static void grades() {
    says("MINUTES of SECTIONS from 0 on become the numbers of a sheet, as far as there are SECTIONS: how many.");
    for (int stations = 2; stations <= 7; stations++) {
      for (int n = 0; n <= 7; n++) {
        SidingLine x = lineOf(stations);
        x.sheet(0, 8, n);
        for (int i = 0; i < n; i++) x.put(0, i, 30 - i);
        int want = Math.min(n, stations - 1);
        due(n + " numbers, " + stations + " stations", x.grades(0), want);
        for (int i = 0; i < stations - 1; i++) due("section " + i, x.section(i, 1), i < want ? 30 - i : 10);
      }
    }
    says("BEYOND: no such sheet.");
    beyondOutside("sheet", 0, 3, s -> new SidingLine().grades(s));
    says("MISSING.");
    for (int s = 0; s < 4; s++) due("sheet " + s, new SidingLine().grades(s), MISSING);
    says("BEYOND: one that would be used is not 1 to 30.");
    for (int bits = 8; bits <= 32; bits *= 2) {
      for (int v : new int[] {0, 31, -1, 128, Integer.MIN_VALUE, Integer.MAX_VALUE}) {
        due(v + " first", gradesOf(3, bits, v, 5).grades(0), BEYOND);
        SidingLine x = gradesOf(3, bits, 5, v);
        due(v + " last", x.grades(0), BEYOND);
        due("nothing changed", x.section(0, 10), 10);
        due(v + " that would not be used", gradesOf(3, bits, 1, 30, v).grades(0), 2);
        due(v + " that would not be used of two stations", gradesOf(2, bits, 1, v).grades(0), 1);
      }
    }
    due("257 in 8 bits is 1", gradesOf(2, 8, 257).grades(0), 1);
    due("257 in 16 bits", gradesOf(2, 16, 257).grades(0), BEYOND);
    due("65537 in 16 bits is 1", gradesOf(2, 16, 65537).grades(0), 1);
    due("65537 in 32 bits", gradesOf(2, 32, 65537).grades(0), BEYOND);
  }

  private static void undo() {
    says("The latest act that changed the line (stations, siding, section, train, time, meet, late, wait, run, annul,"
        + " hand, force, grades, without a finding) is undone: how many more can be.");
    SidingLine x = new SidingLine();
    x.siding(0, 1);
    x.siding(0, 2);
    x.siding(0, 31);
    x.stations(8);
    x.train(0, 0, 0, 1, 0);
    x.sheet(0, 8, 1);
    x.put(0, 0, 5);
    x.copy(0, 0, 0, 0, 1);
    x.grades(1);
    x.heads();
    x.all(0);
    due("the latest without a finding", x.undo(), 1);
    due("it was undone", x.siding(0, 3), 1);
    due("that was an act, too", x.undo(), 1);
    due("the first one", x.undo(), 0);
    due("it was undone", x.siding(0, 3), 10);
    due("the sheet stays", x.grades(0), 1);
    due("findings stay", x.all(4), 4);
    says("NONE.");
    due("two acts", x.undo(), 1);
    due("one act", x.undo(), 0);
    due("no act", x.undo(), NONE);
    due("nor now", x.undo(), NONE);
    due("each was counted", x.all(4), 6);
    due("a new one", new SidingLine().undo(), NONE);
  }

  private static void undoKept() {
    says("(The latest 16 are kept; also such as changed nothing.)");
    for (int acts : new int[] {1, 15, 16, 17, 32, 33, 100}) {
      SidingLine x = new SidingLine();
      for (int i = 0; i < acts; i++) x.siding(0, i % 31);
      int kept = Math.min(acts, 16);
      for (int more = kept - 1; more >= 0; more--) due(acts + " acts", x.undo(), more);
      due(acts + " acts, no more", x.undo(), NONE);
      due(acts + " acts, as it was ahead of those", x.siding(0, 5), acts <= 16 ? 10 : (acts - 17) % 31);
    }
    SidingLine y = twoRegulars();
    for (int i = 0; i < 15; i++) y.stations(3);
    for (int more = 15; more >= 0; more--) due("such as changed nothing", y.undo(), more);
    due("no more", y.undo(), NONE);
    due("the first train is not undone", y.all(1), 1);
  }

  /** Acts and undoes in turn, far beyond sixteen, against a list of what was. */
  private static void undoGoesRound() {
    SidingLine x = new SidingLine();
    java.util.ArrayList<Integer> kept = new java.util.ArrayList<>();
    int now = 10;
    for (int round = 0; round < 20; round++) {
      for (int i = 0; i < 11; i++) {
        int v = (round * 7 + i) % 31;
        due("what it was", x.siding(1, v), now);
        kept.add(now);
        if (kept.size() > 16) kept.remove(0);
        now = v;
      }
      for (int i = 0; i < 9; i++) {
        now = kept.remove(kept.size() - 1);
        due("how many more", x.undo(), kept.size());
      }
    }
  }

  /** Each sort of act alone is undone, so that what it told is as it was ahead of it. */
  private static void undoOfEachAct() {
    SidingLine x = twoRegulars();
    x.run(0, 0);
    x.hand(0, 0, 50);
    x.stations(7);
    due("four more", x.undo(), 4);
    due("stations", x.all(0), 3);
    x.siding(0, 30);
    x.undo();
    due("siding", x.siding(0, 10), 10);
    x.undo();
    x.section(1, 30);
    x.undo();
    due("section", x.due(0, 2), 20);
    x.train(MAIL, 0, 1, 8, 0);
    x.undo();
    due("train", x.of(2, 0), BEYOND);
    x.time(0, 300);
    x.undo();
    due("time", x.came(0, 0), 0);
    x.meet(0, 1, 1);
    x.undo();
    due("meet", x.order(1, 0), BEYOND);
    x.late(0, 1);
    x.undo();
    due("late", x.order(1, 0), BEYOND);
    x.wait(0, 0, 1);
    x.undo();
    due("wait", x.order(1, 0), BEYOND);
    x.run(0, 1);
    x.undo();
    due("run", x.order(1, 0), BEYOND);
    x.annul(0);
    x.hand(1, 0, 0);
    x.undo();
    x.undo();
    due("annul", x.holds(0, 0, 50), 1);
    x.hand(0, 0, 0);
    x.undo();
    due("hand, the earlier minute", x.holds(0, 0, 49), 0);
    due("hand, it still is handed", x.holds(0, 0, 50), 1);
    x.undo();
    due("hand, it never was", x.holds(0, 0, 500), 0);
    x.force(1, 5);
    due("forced", x.heads(), 1);
    x.undo();
    due("force", x.heads(), 0);
    x.sheet(0, 8, 2);
    x.put(0, 0, 30);
    x.put(0, 1, 30);
    x.grades(0);
    due("graded", x.due(0, 2), 60);
    x.undo();
    due("grades", x.due(0, 2), 20);
  }

  private static void all() {
    says("0 STATIONS, 1 TRAINS, 2 ORDERS, 3 how many are FORCED, 4 how many acts answered a finding ever (this one, too,"
        + " if it does).");
    SidingLine x = lineOf(7);
    for (int t = 0; t < 6; t++) x.train(EXTRA, 0, 6, 8, 0);
    for (int k = 0; k < 13; k++) x.run(0, 0);
    for (int i = 0; i < 7; i++) x.force(0, 0);
    dueRow("all is full", x::all, 7, 5, 12, 6, 3);
    due("a question", x.best(0), NONE);
    due("it counts", x.all(4), 4);
    due("-1 is no finding", x.hand(0, 0, 0), -1);
    due("nor is it here", x.order(0, 2), -1);
    due("so it counts not", x.all(4), 4);
    due("this one, too", x.all(5), BEYOND);
    due("it counted", x.all(4), 5);
    x.undo();
    due("undo takes none back", x.all(4), 5);
    says("BEYOND: another what.");
    beyondOutside("what", 0, 4, what -> new SidingLine().all(what));
  }

  /** The last call that a document's object can be asked is answered like the first one. */
  private static void manyCalls() {
    says("0 STATIONS, 1 TRAINS, 2 ORDERS, 3 how many are FORCED, 4 how many acts answered a finding ever (this one, too,"
        + " if it does).");
    SidingLine x = new SidingLine();
    for (int i = 0; i < 511; i++) due("a finding each", x.all(5), BEYOND);
    due("the 512th call", x.all(4), 511);
    SidingLine y = twoRegulars();
    for (int i = 0; i < 509; i++) y.time(0, i % 301);
    due("the 512th call", y.of(0, 4), 508 % 301);
  }
}
