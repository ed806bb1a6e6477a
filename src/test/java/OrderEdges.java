/** Edges of promises 11 to 19, and of what Terms tells of orders. */
final class OrderEdges extends Edges {
  static void check() {
    promise(TERMS);
    bits();
    termsOfOrders();
    termsOfHolding();
    promise(11);
    meets();
    promise(12);
    lates();
    promise(13);
    waits();
    promise(14);
    runs();
    promise(15);
    annuls();
    promise(16);
    handings();
    promise(17);
    holdings();
    promise(18);
    told();
    promise(19);
    forces();
  }

  /** Two regulars and twelve orders. */
  private static SidingLine full() {
    SidingLine x = twoRegulars();
    fillOrders(x);
    return x;
  }

  private static void bits() {
    says("Sets are told by bits.");
    SidingLine x = lineOf(2);
    for (int t = 0; t < 5; t++) x.train(EXTRA, 0, 1, 1, 0);
    x.run(0, 0);
    due("to none", x.order(0, 5), 0);
    int want = 0;
    for (int t = 4; t >= 0; t--) {
      x.hand(0, t, 400);
      want += 1 << t;
      due("to the greatest from " + t + " on", x.order(0, 5), want);
    }
    due("to all", want, 31);
  }

  private static void termsOfOrders() {
    says("ORDERS 0, 1, .. (at most 12) are of a FORM: 0 MEET a b at s (a, b TRAINS of contrary WAYS); 1 LATE a by v"
        + " minutes (v 1 to 120); 2 WAIT a at s until v (0 to 400); 3 RUN a from v on (0 to 400); 4 ANNUL order k (an"
        + " earlier one).");
    SidingLine x = twoRegulars();
    due("the first of all is no annul", x.annul(0), BEYOND);
    for (int k = 0; k < 12; k++) due("number " + k, write(x, k % 5, k), k);
    for (int k = 0; k < 12; k++) due("form of " + k, x.order(k, 0), k % 5);
    for (int form = 0; form < 5; form++) due("a thirteenth of form " + form, write(x, form, 12), FULL);
    due("twelve", x.all(2), 12);
    due("there is no order 12", x.order(12, 0), BEYOND);
  }

  private static int write(SidingLine x, int form, int count) {
    switch (form) {
      case 0:
        return x.meet(0, 1, 1);
      case 1:
        return x.late(0, 120);
      case 2:
        return x.wait(0, 2, 400);
      case 3:
        return x.run(0, 400);
      default:
        return x.annul(count - 1);
    }
  }

  private static void termsOfHolding() {
    says("They are HANDED to TRAINS at minutes (0 to 400): a TRAIN HOLDS an ORDER in a minute if it was handed to it in"
        + " that or an earlier one, and it HOLDS no ANNUL of it then (an ANNUL that is annulled itself, by one that it"
        + " HOLDS, annuls nothing).");
    for (int minute : new int[] {1, 399, 400}) {
      SidingLine x = twoRegulars();
      x.run(0, 0);
      x.hand(0, 0, minute);
      due("ahead of " + minute, x.holds(0, 0, minute - 1), 0);
      due("in " + minute, x.holds(0, 0, minute), 1);
      due("behind " + minute, x.holds(0, 0, minute + 1), 1);
      due("the other one does not", x.holds(1, 0, minute), 0);
    }
    chainOfAnnuls();
    twoAnnuls();
    annulAheadOfItsOrder();
  }

  /** Twelve orders, each but the first one the annul of the one ahead of it, handed one a minute. */
  private static void chainOfAnnuls() {
    SidingLine x = twoRegulars();
    x.run(0, 0);
    for (int k = 1; k < 12; k++) x.annul(k - 1);
    for (int k = 0; k < 12; k++) x.hand(k, 0, k);
    for (int minute = 0; minute < 12; minute++) {
      for (int k = 0; k <= minute; k++) {
        int want = (minute - k) % 2 == 0 ? 1 : 0;
        due("chain, minute " + minute + ", order " + k, x.holds(0, k, minute), want);
      }
    }
  }

  private static void twoAnnuls() {
    SidingLine x = twoRegulars();
    x.run(0, 0);
    x.annul(0);
    x.annul(0);
    x.annul(1);
    for (int k = 0; k < 3; k++) x.hand(k, 0, 0);
    x.hand(3, 1, 0);
    due("the other one's annul of an annul", x.holds(0, 1, 500), 1);
    x.hand(3, 0, 10);
    due("one of two annuls is annulled", x.holds(0, 1, 10), 0);
    due("so the other one annuls", x.holds(0, 0, 10), 0);
    x.annul(2);
    x.hand(4, 0, 20);
    due("until it is, too", x.holds(0, 0, 19), 0);
    due("both are", x.holds(0, 0, 20), 1);
  }

  private static void annulAheadOfItsOrder() {
    SidingLine x = twoRegulars();
    x.run(0, 0);
    x.annul(0);
    x.hand(1, 0, 10);
    x.hand(0, 0, 20);
    due("annulled ahead of its handing", x.holds(0, 0, 20), 0);
    due("for good", x.holds(0, 0, 500), 0);
    SidingLine y = twoRegulars();
    y.run(0, 0);
    y.annul(0);
    y.hand(0, 0, 10);
    y.hand(1, 0, 10);
    due("in one minute", y.holds(0, 0, 10), 0);
  }

  private static void meets() {
    says("A MEET: its number.");
    SidingLine x = twoRegulars();
    due("lesser first", x.meet(0, 1, 0), 0);
    due("greater first", x.meet(1, 0, 2), 1);
    dueRow("as it was told", what -> x.order(1, what), 0, 1, 0, 2, 0, 0);
    says("BEYOND: no such TRAIN (either), or STATION.");
    beyondOutside("a", 0, 1, v -> twoRegulars().meet(v, 1, 0));
    beyondOutside("b", 0, 1, v -> twoRegulars().meet(0, v, 0));
    beyondOutside("station", 0, 2, v -> twoRegulars().meet(0, 1, v));
    due("none at all", new SidingLine().meet(0, 1, 0), BEYOND);
    due("behind the last station", lineOf(2).meet(0, 1, 2), BEYOND);
    says("SIZE: they are of one WAY.");
    x.train(EXTRA, 1, 2, 1, 0);
    for (int t = 0; t < 3; t++) due("itself " + t, x.meet(t, t, 0), SIZE);
    due("both up", x.meet(0, 2, 0), SIZE);
    says("FULL: there are 12 ORDERS.");
    for (int k = 2; k < 12; k++) due("number " + k, x.meet(0, 1, 1), k);
    due("one more", x.meet(0, 1, 1), FULL);
    due("SIZE ahead of it", x.meet(0, 2, 1), SIZE);
    due("BEYOND ahead of it", x.meet(0, 3, 1), BEYOND);
    x.undo();
    due("one less, then one more", x.meet(1, 2, 1), 11);
  }

  private static void lates() {
    says("A LATE: its number.");
    SidingLine x = twoRegulars();
    due("least", x.late(0, 1), 0);
    due("greatest", x.late(1, 120), 1);
    dueRow("as it was told", what -> x.order(1, what), 1, 1, -1, -1, 120, 0);
    says("BEYOND.");
    beyondOutside("a", 0, 1, v -> twoRegulars().late(v, 5));
    beyondOutside("v", 1, 120, v -> twoRegulars().late(0, v));
    due("no train at all", new SidingLine().late(0, 5), BEYOND);
    says("FULL.");
    for (int k = 2; k < 12; k++) due("number " + k, x.late(0, 1), k);
    due("one more", x.late(0, 1), FULL);
    due("BEYOND ahead of it", x.late(0, 0), BEYOND);
    due("twelve", x.all(2), 12);
  }

  private static void waits() {
    says("A WAIT: its number.");
    SidingLine x = twoRegulars();
    due("least", x.wait(0, 0, 0), 0);
    due("greatest", x.wait(1, 2, 400), 1);
    dueRow("as it was told", what -> x.order(1, what), 2, 1, -1, 2, 400, 0);
    says("BEYOND.");
    beyondOutside("a", 0, 1, v -> twoRegulars().wait(v, 0, 5));
    beyondOutside("station", 0, 2, v -> twoRegulars().wait(0, v, 5));
    beyondOutside("v", 0, 400, v -> twoRegulars().wait(0, 0, v));
    due("no train at all", new SidingLine().wait(0, 0, 5), BEYOND);
    says("FULL.");
    for (int k = 2; k < 12; k++) due("number " + k, x.wait(0, 0, 0), k);
    due("one more", x.wait(0, 0, 0), FULL);
    due("BEYOND ahead of it", x.wait(0, 3, 0), BEYOND);
    due("twelve", x.all(2), 12);
  }

  private static void runs() {
    says("A RUN: its number.");
    SidingLine x = twoRegulars();
    due("least", x.run(0, 0), 0);
    due("greatest", x.run(1, 400), 1);
    dueRow("as it was told", what -> x.order(1, what), 3, 1, -1, -1, 400, 0);
    says("BEYOND.");
    beyondOutside("a", 0, 1, v -> twoRegulars().run(v, 5));
    beyondOutside("v", 0, 400, v -> twoRegulars().run(0, v));
    due("no train at all", new SidingLine().run(0, 5), BEYOND);
    says("FULL.");
    for (int k = 2; k < 12; k++) due("number " + k, x.run(0, 0), k);
    due("one more", x.run(0, 0), FULL);
    due("BEYOND ahead of it", x.run(0, 401), BEYOND);
    due("twelve", x.all(2), 12);
  }

  private static void annuls() {
    says("An ANNUL: its number.");
    SidingLine x = twoRegulars();
    x.run(0, 0);
    due("of the first", x.annul(0), 1);
    due("of an annul", x.annul(1), 2);
    due("of one that was annulled", x.annul(0), 3);
    dueRow("as it was told", what -> x.order(2, what), 4, 1, -1, -1, 0, 0);
    says("BEYOND: no such ORDER.");
    beyondOutside("order", 0, 0, k -> {
      SidingLine y = twoRegulars();
      y.run(0, 0);
      return y.annul(k);
    });
    due("no order at all", twoRegulars().annul(0), BEYOND);
    due("the one that it would be", x.annul(4), BEYOND);
    due("the one that it would be, of twelve", full().annul(12), BEYOND);
    says("FULL.");
    for (int k = 4; k < 12; k++) due("number " + k, x.annul(k - 1), k);
    for (int k = 0; k < 12; k++) due("one more, of " + k, x.annul(k), FULL);
    due("BEYOND ahead of it", x.annul(-1), BEYOND);
    due("twelve", x.all(2), 12);
  }

  private static void handings() {
    says("An ORDER is HANDED to a TRAIN: in which minute it was HANDED to it ahead of that (-1: never, no finding; the"
        + " earlier minute counts).");
    SidingLine x = full();
    due("first", x.hand(11, 0, 400), -1);
    due("no finding", x.all(4), 0);
    due("again", x.hand(11, 0, 400), 400);
    due("a minute earlier", x.hand(11, 0, 399), 400);
    due("later", x.hand(11, 0, 400), 399);
    due("holds from the earlier one on", x.holds(0, 11, 399), 1);
    due("not ahead of that", x.holds(0, 11, 398), 0);
    due("in minute 0", x.hand(11, 0, 0), 399);
    due("0 is no never", x.hand(11, 0, 1), 0);
    due("0 counts", x.hand(11, 0, 0), 0);
    due("to the other one", x.hand(11, 1, 5), -1);
    due("another order", x.hand(0, 0, 5), -1);
    says("BEYOND.");
    beyondOutside("order", 0, 11, v -> full().hand(v, 0, 5));
    beyondOutside("train", 0, 1, v -> full().hand(0, v, 5));
    beyondOutside("minute", 0, 400, v -> full().hand(0, 0, v));
    due("no order at all", twoRegulars().hand(0, 0, 0), BEYOND);
    due("a refused one is not handed", x.hand(1, 0, 401), BEYOND);
    due("it was never", x.hand(1, 0, 5), -1);
  }

  private static void holdings() {
    says("Whether a TRAIN HOLDS an ORDER in a minute (0 to 500): 1, 0.");
    SidingLine x = full();
    x.hand(11, 1, 0);
    x.hand(10, 1, 400);
    due("from 0 on, 0", x.holds(1, 11, 0), 1);
    due("from 0 on, 500", x.holds(1, 11, 500), 1);
    due("from 400 on, 0", x.holds(1, 10, 0), 0);
    due("from 400 on, 399", x.holds(1, 10, 399), 0);
    due("from 400 on, 400", x.holds(1, 10, 400), 1);
    due("from 400 on, 500", x.holds(1, 10, 500), 1);
    due("never", x.holds(0, 11, 500), 0);
    says("BEYOND.");
    beyondOutside("train", 0, 1, v -> x.holds(v, 0, 5));
    beyondOutside("order", 0, 11, v -> x.holds(0, v, 5));
    beyondOutside("minute", 0, 500, v -> x.holds(0, 0, v));
    due("no order at all", twoRegulars().holds(0, 0, 0), BEYOND);
  }

  private static void told() {
    says("Of an ORDER: 0 its FORM, 1 its TRAIN (of ANNULS the ORDER), 2 the other TRAIN (MEET; else -1, no finding), 3"
        + " its STATION (MEET, WAIT; else -1, no finding), 4 v (0 without), 5 to which TRAINS it was HANDED, as bits.");
    SidingLine x = twoRegulars();
    x.meet(0, 1, 0);
    x.late(0, 1);
    x.wait(0, 0, 0);
    x.run(0, 0);
    x.annul(0);
    x.annul(4);
    int[][] want = {
      {0, 0, 1, 0, 0, 0}, {1, 0, -1, -1, 1, 0}, {2, 0, -1, 0, 0, 0}, {3, 0, -1, -1, 0, 0}, {4, 0, -1, -1, 0, 0},
      {4, 4, -1, -1, 0, 0},
    };
    for (int k = 0; k < 6; k++) {
      for (int what = 0; what < 6; what++) due(k + " what " + what, x.order(k, what), want[k][what]);
    }
    due("no finding", x.all(4), 0);
    x.hand(4, 1, 400);
    due("handed", x.order(4, 5), 2);
    x.hand(5, 1, 0);
    due("handed, though annulled", x.order(4, 5), 2);
    x.undo();
    x.undo();
    due("handed to none again", x.order(4, 5), 0);
    says("BEYOND: no such ORDER, or another what.");
    beyondOutside("order", 0, 5, v -> x.order(v, 0));
    beyondOutside("what", 0, 5, v -> x.order(0, v));
    due("no order at all", twoRegulars().order(0, 0), BEYOND);
  }

  private static void forces() {
    says("FULL: there are 6.");
    SidingLine x = twoRegulars();
    for (int i = 1; i <= 6; i++) due("number " + i, x.force(i % 2, 500), i);
    due("a seventh", x.force(0, 0), FULL);
    due("of the other train", x.force(1, 0), FULL);
    due("told", x.all(3), 6);
    x.undo();
    due("one less, then one more", x.force(0, 0), 6);
    due("full again", x.force(0, 1), FULL);
    says("A TRAIN is FORCED in a minute (0 to 500): how many are told.");
    SidingLine y = new SidingLine();
    y.train(EXTRA, 0, 2, 1, 0);
    due("in minute 500", y.force(0, 500), 1);
    due("it leaves then", y.left(0, 0), 500);
    due("in minute 0", y.force(0, 0), 2);
    due("it leaves now", y.left(0, 0), 0);
    due("and from the next one", y.left(0, 1), 500);
    due("once more in 0", y.force(0, 0), 3);
    due("that changes nothing", y.left(0, 1), 500);
    says("BEYOND.");
    beyondOutside("train", 0, 1, v -> twoRegulars().force(v, 5));
    beyondOutside("minute", 0, 500, v -> twoRegulars().force(0, v));
    due("no train at all", new SidingLine().force(0, 0), BEYOND);
    due("ahead of FULL", x.force(2, 0), BEYOND);
    due("ahead of FULL, minute", x.force(0, 501), BEYOND);
  }
}
