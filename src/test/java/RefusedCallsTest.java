import java.util.ArrayList;
import java.util.List;
import java.util.Set;
import java.util.TreeSet;

/**
 * "An act that answers a finding changes nothing": of two objects with the same past one is asked a call that it
 * refuses, then both are asked all that can be asked. Nothing but the count of findings may tell them apart.
 */
public final class RefusedCallsTest {
  private static final int MISSING = -100002, SIZE = -100003, KIND = -100004, FULL = -100005, NONE = -100006,
      BEYOND = -100001, TAKEN = -100007;

  private record Refused(int finding, String call) {
  }

  /** Each finding of each call, on the rich line. */
  private static final Refused[] ON_THE_RICH_LINE = {
    r(BEYOND, "stations 1"), r(BEYOND, "stations 8"), r(TAKEN, "stations 4"), r(TAKEN, "stations 2"),
    r(BEYOND, "siding 5 1"), r(BEYOND, "siding 0 31"), r(BEYOND, "siding 0 -1"), r(BEYOND, "section 4 1"),
    r(BEYOND, "section 0 0"), r(BEYOND, "section 0 31"), r(BEYOND, "train 4 0 1 1 0"), r(BEYOND, "train 0 0 5 1 0"),
    r(BEYOND, "train 0 0 1 0 0"), r(BEYOND, "train 0 0 1 1 301"), r(SIZE, "train 0 3 3 1 0"), r(BEYOND, "as 4 0"),
    r(KIND, "as 0 2"), r(BEYOND, "of 0 6"), r(BEYOND, "time 4 0"), r(BEYOND, "time 0 301"), r(BEYOND, "due 4 0"),
    r(NONE, "due 2 3"), r(BEYOND, "over 0 4"), r(SIZE, "over 1 2"), r(BEYOND, "meet 0 4 0"), r(BEYOND, "meet 0 1 5"),
    r(SIZE, "meet 1 3 0"), r(BEYOND, "late 4 1"), r(BEYOND, "late 0 121"), r(BEYOND, "late 0 0"),
    r(BEYOND, "wait 4 0 1"), r(BEYOND, "wait 0 5 1"), r(BEYOND, "wait 0 0 401"), r(BEYOND, "run 4 0"),
    r(BEYOND, "run 0 401"), r(BEYOND, "annul 5"), r(BEYOND, "annul -1"), r(BEYOND, "hand 5 0 0"),
    r(BEYOND, "hand 0 4 0"), r(BEYOND, "hand 0 0 401"), r(BEYOND, "hand 0 0 -1"), r(BEYOND, "holds 0 5 0"),
    r(BEYOND, "holds 0 0 501"), r(BEYOND, "order 5 0"), r(BEYOND, "order 0 6"), r(BEYOND, "force 4 0"),
    r(BEYOND, "force 0 501"), r(BEYOND, "force 0 -1"), r(BEYOND, "where 0 501"), r(BEYOND, "came 0 5"),
    r(NONE, "came 2 3"), r(BEYOND, "left 0 5"), r(NONE, "left 2 3"), r(BEYOND, "why 0 501"), r(NONE, "why 3 59"),
    r(BEYOND, "head 4"), r(BEYOND, "best 4"), r(BEYOND, "price 0 1 5"), r(SIZE, "price 1 3 0"),
    r(BEYOND, "proves 0 1 0 4"), r(SIZE, "proves 1 3 0 0"), r(MISSING, "proves 0 1 0 3"), r(KIND, "proves 0 3 4 0"),
    r(BEYOND, "sheet 4 8 1"), r(BEYOND, "sheet 0 9 1"), r(SIZE, "sheet 0 8 -1"), r(SIZE, "sheet 0 0 -1"),
    r(BEYOND, "sheet 0 8 61"), r(BEYOND, "sheet 0 0 61"), r(BEYOND, "put 4 0 0"), r(MISSING, "put 3 0 0"),
    r(BEYOND, "put 0 4 9"), r(BEYOND, "put 0 -1 9"), r(BEYOND, "copy 0 0 4 0 1"), r(MISSING, "copy 0 0 3 0 1"),
    r(KIND, "copy 0 0 2 0 1"), r(BEYOND, "copy 0 0 1 3 4"), r(BEYOND, "copy 0 1 1 0 4"), r(BEYOND, "copy 0 0 1 -1 1"),
    r(BEYOND, "grades 4"), r(MISSING, "grades 3"), r(BEYOND, "grades 1"), r(BEYOND, "all 5"),
  };

  /** Those that want a line that is full. */
  private static final Refused[] ON_THE_FULL_LINE = {
    r(FULL, "train 0 0 1 1 0"), r(FULL, "meet 0 1 0"), r(FULL, "late 0 1"), r(FULL, "wait 0 0 0"), r(FULL, "run 0 0"),
    r(FULL, "annul 0"), r(FULL, "force 0 0"), r(SIZE, "train 0 0 0 1 0"), r(BEYOND, "annul 12"), r(SIZE, "meet 0 0 0"),
  };

  /** Two stations, two trains of one way, no head on: what is NONE there. */
  private static final String[] POOR = {"stations 2", "train 1 0 1 8 0", "train 0 0 1 8 300", "sheet 0 8 1", "put 0 0 9"};
  private static final Refused[] ON_THE_POOR_LINE = {
    r(NONE, "head 0"), r(NONE, "head 4"), r(NONE, "cause"), r(NONE, "best 0"), r(NONE, "best 4"), r(BEYOND, "annul 0"),
  };

  /** Nothing is left to be undone there. */
  private static final String[] UNDONE = {"train 1 0 2 8 0", "run 0 0", "undo", "undo"};
  private static final Refused[] ON_THE_UNDONE_LINE = {r(NONE, "undo"), r(BEYOND, "run 0 0"), r(BEYOND, "time 0 0")};

  private static final Set<String> refusedKinds = new TreeSet<>();
  private static int tried = 0;
  private static int wrong = 0;

  private static Refused r(int finding, String call) {
    return new Refused(finding, call);
  }

  public static void main(String[] args) {
    for (Refused refused : ON_THE_RICH_LINE) tryRefused(Calls.RICH, refused);
    String[] full = Calls.join(Calls.RICH, Calls.FILL);
    for (Refused refused : ON_THE_FULL_LINE) tryRefused(full, refused);
    for (Refused refused : ON_THE_RICH_LINE) if (refused.finding == BEYOND) tryOnFull(full, refused);
    for (Refused refused : ON_THE_POOR_LINE) tryRefused(POOR, refused);
    for (Refused refused : ON_THE_UNDONE_LINE) tryRefused(UNDONE, refused);
    checkThatEachFindingWasTried();
    System.out.println(wrong == 0 ? tried + " refused calls changed nothing" : wrong + " refused calls went wrong");
    if (wrong != 0) System.exit(1);
  }

  /** On a full line more trains and orders are there, so only those that are refused there, too, are tried. */
  private static void tryOnFull(String[] full, Refused refused) {
    SidingLine probe = new SidingLine();
    Calls.prepare(probe, full);
    if (Calls.ask(probe, refused.call) == refused.finding) tryRefused(full, refused);
  }

  private static void tryRefused(String[] past, Refused refused) {
    tried++;
    refusedKinds.add(refused.call.split(" ")[0] + " " + refused.finding);
    for (List<String> questions : questionsInParts()) {
      SidingLine asked = new SidingLine();
      SidingLine spared = new SidingLine();
      Calls.prepare(asked, past);
      Calls.prepare(spared, past);
      int got = Calls.ask(asked, refused.call);
      if (got != refused.finding) {
        fail(refused, "answered " + got);
        return;
      }
      if (asked.all(4) != spared.all(4) + 1) fail(refused, "is not counted once");
      for (String question : questions) {
        int want = Calls.ask(spared, question);
        int now = Calls.ask(asked, question);
        if (now != want) {
          fail(refused, "made " + question + " answer " + now + ", not " + want);
          return;
        }
      }
    }
  }

  private static void fail(Refused refused, String how) {
    wrong++;
    System.out.println(refused.call + " (" + refused.finding + ") " + how);
  }

  /** In parts, as an object is good for 512 calls. */
  private static List<List<String>> questionsInParts() {
    return List.of(ofTheLine(), ofHolding(), ofTheDay(), ofMending(), byActing(), byUndoing());
  }

  private static List<String> ofTheLine() {
    List<String> all = new ArrayList<>();
    for (int what = 0; what < 4; what++) all.add("all " + what);
    for (int t = 0; t < 6; t++) {
      for (int what = 0; what < 6; what++) all.add("of " + t + " " + what);
      for (int s = 0; s < 6; s++) all.add("due " + t + " " + s);
      for (int o = 0; o < 6; o++) all.add("over " + t + " " + o);
      for (int kind = 0; kind < 4; kind++) all.add("as " + t + " " + kind);
    }
    for (int k = 0; k < 13; k++) {
      for (int what = 0; what < 6; what++) all.add("order " + k + " " + what);
    }
    return all;
  }

  private static List<String> ofHolding() {
    List<String> all = new ArrayList<>();
    for (int t = 0; t < 5; t++) {
      for (int k = 0; k < 12; k++) {
        for (int minute : new int[] {0, 5, 20, 25, 500}) all.add("holds " + t + " " + k + " " + minute);
      }
    }
    return all;
  }

  private static List<String> ofTheDay() {
    List<String> all = new ArrayList<>(List.of("heads", "cause", "fouls", "delay"));
    for (int what = 0; what < 4; what++) all.add("head " + what);
    for (int t = 0; t < 5; t++) {
      for (int s = 0; s < 5; s++) {
        all.add("came " + t + " " + s);
        all.add("left " + t + " " + s);
      }
      for (int minute = 0; minute <= 500; minute += minute < 60 ? 5 : 44) {
        all.add("where " + t + " " + minute);
        all.add("why " + t + " " + minute);
      }
    }
    return all;
  }

  private static List<String> ofMending() {
    List<String> all = new ArrayList<>();
    for (int what = 0; what < 4; what++) all.add("best " + what);
    for (int a = 0; a < 5; a++) {
      for (int b = 0; b < 5; b++) {
        for (int s = 0; s < 5; s++) all.add("price " + a + " " + b + " " + s);
      }
    }
    for (int sheet = 0; sheet < 4; sheet++) all.add("proves 0 1 0 " + sheet);
    return all;
  }

  /** What can be seen only by changing it: sidings, sections, minutes of handing, numbers of sheets. */
  private static List<String> byActing() {
    List<String> all = new ArrayList<>();
    for (int s = 0; s < 7; s++) all.add("siding " + s + " 3");
    for (int i = 0; i < 6; i++) all.add("section " + i + " 3");
    for (int k = 0; k < 12; k++) {
      for (int t = 0; t < 5; t++) all.add("hand " + k + " " + t + " 400");
    }
    for (int s = 0; s < 4; s++) {
      for (int i : new int[] {0, 3, 5}) {
        all.add("grades " + s);
        for (int j = 0; j < 4; j++) all.add("section " + j + " 2");
        all.add("put " + s + " " + i + " 11");
      }
      for (int t = 0; t < 4; t++) all.add("copy " + s + " 0 " + t + " 0 4");
      all.add("grades " + s);
      all.add("put " + s + " 59 1");
      all.add("put " + s + " 60 1");
    }
    all.add("stations 7");
    for (int s = 0; s < 7; s++) all.add("siding " + s + " 4");
    for (int i = 0; i < 6; i++) all.add("section " + i + " 4");
    all.addAll(List.of("train 1 0 1 9 9", "run 0 7", "force 0 1", "stations 5", "delay", "fouls"));
    return all;
  }

  private static List<String> byUndoing() {
    List<String> all = new ArrayList<>();
    for (int i = 0; i < 18; i++) {
      all.add("undo");
      for (int what = 0; what < 4; what++) all.add("all " + what);
      all.addAll(List.of("delay", "fouls", "heads", "cause", "due 0 4", "order 4 5"));
    }
    return all;
  }

  /** As the promises tell them; a call and the code of its finding. */
  private static void checkThatEachFindingWasTried() {
    String[] told = {
      "stations BT", "siding B", "section B", "train BSF", "as BK", "of B", "time B", "due BN", "over BS", "meet BSF",
      "late BF", "wait BF", "run BF", "annul BF", "hand B", "holds B", "order B", "force BF", "where B", "came BN",
      "left BN", "why BN", "head NB", "cause N", "best NB", "price BS", "proves BSMK", "sheet BS", "put BM", "copy BMK",
      "grades BM", "undo N", "all B",
    };
    for (String row : told) {
      String[] words = row.split(" ");
      for (char letter : words[1].toCharArray()) {
        int finding = -100001 - "BMSKFNT".indexOf(letter);
        if (!refusedKinds.contains(words[0] + " " + finding)) {
          wrong++;
          System.out.println("not tried: " + words[0] + " refused with " + finding);
        }
      }
    }
  }
}
