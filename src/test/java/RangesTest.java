import java.util.Arrays;

/**
 * Every call with every combination of edges: each argument at both ends of what it may be, one beyond each end, and as
 * far off as an int can be. One argument that is beyond makes the answer BEYOND where the document asks that first;
 * each answer is also held against NaiveLine.
 */
public final class RangesTest {
  private static final int BEYOND = -100001;

  /** On the rich line, what each argument may be; '*' behind the name: BEYOND is not all that is asked first. */
  private static final String[] CALLS_TOLD = {
    "stations 2..7", "siding 0..4 0..30", "section 0..3 1..30", "train 0..3 0..4 0..4 1..30 0..300", "as 0..3 0..3",
    "of 0..3 0..5", "time 0..3 0..300", "due 0..3 0..4", "over 0..3 0..3", "meet 0..3 0..3 0..4", "late 0..3 1..120",
    "wait 0..3 0..4 0..400", "run 0..3 0..400", "annul 0..4", "hand 0..4 0..3 0..400", "holds 0..3 0..4 0..500",
    "order 0..4 0..5", "force 0..3 0..500", "where 0..3 0..500", "came 0..3 0..4", "left 0..3 0..4", "why 0..3 0..500",
    "head 0..3", "best 0..3", "price 0..3 0..3 0..4", "proves 0..3 0..3 0..4 0..3", "sheet* 0..3 8..8 0..60",
    "sheet* 0..3 16..32 0..60", "sheet* 0..3 0..0 0..60", "put* 0..3 0..3 1..30", "put* 0..3 0..59 1..30",
    "copy* 0..1 0..4 0..1 0..6 0..4", "copy* 0..3 0..2 0..3 0..2 0..2", "grades* 0..3", "all 0..4",
  };

  private static int asked = 0;
  private static int wrong = 0;

  public static void main(String[] args) {
    String[] full = Calls.join(Calls.RICH, Calls.FILL);
    for (String told : CALLS_TOLD) {
      tryCall(told, Calls.RICH, true);
      boolean isDear = told.startsWith("train") || told.startsWith("copy");
      if (!isDear) tryCall(told, full, false);
    }
    System.out.println(wrong == 0 ? asked + " calls at their edges are answered as due" : wrong + " calls went wrong");
    if (wrong != 0) System.exit(1);
  }

  private static void tryCall(String told, String[] setup, boolean hasTheseRanges) {
    String[] words = told.split(" ");
    int count = words.length - 1;
    int[][] values = new int[count][];
    int combinations = 1;
    for (int i = 0; i < count; i++) {
      values[i] = edges(words[i + 1]);
      combinations *= values[i].length;
    }
    boolean isBeyondFirst = hasTheseRanges && !words[0].endsWith("*");
    for (int n = 0; n < combinations; n++) {
      int[] with = new int[count];
      boolean isWithin = true;
      int rest = n;
      for (int i = 0; i < count; i++) {
        int place = rest % values[i].length;
        rest /= values[i].length;
        with[i] = values[i][place];
        isWithin &= place <= 1;
      }
      int got = tryWith(words[0].replace("*", ""), with, setup);
      if (isBeyondFirst && isWithin == (got == BEYOND)) fail(words[0], with, "answered " + got);
    }
  }

  /** Both ends first, then what is beyond them. */
  private static int[] edges(String told) {
    String[] ends = told.split("\\.\\.");
    int least = Integer.parseInt(ends[0]);
    int greatest = Integer.parseInt(ends[1]);
    return new int[] {least, greatest, least - 1, greatest + 1, Integer.MIN_VALUE, Integer.MAX_VALUE};
  }

  private static int tryWith(String name, int[] with, String[] setup) {
    SidingLine mine = new SidingLine();
    NaiveLine due = new NaiveLine();
    Calls.prepare(mine, setup);
    Calls.prepare(due, setup);
    int got = Calls.ask(mine, name, with);
    int want = Calls.ask(due, name, with);
    asked++;
    if (got != want) fail(name, with, "answered " + got + ", due is " + want);
    int findings = mine.all(4);
    if (findings != (got < -99999 ? 1 : 0)) fail(name, with, "answered " + got + ", findings are " + findings);
    return got;
  }

  private static void fail(String name, int[] with, String how) {
    wrong++;
    if (wrong < 20) System.out.println(name + Arrays.toString(with) + " " + how);
  }
}
