import java.lang.reflect.Method;
import java.util.ArrayList;
import java.util.LinkedHashMap;
import java.util.List;
import java.util.Map;
import java.util.Random;
import java.util.Set;

/**
 * Runs of calls by fixed seeds, each answered by SidingLine and by NaiveLine: they must never differ. No object is asked
 * more than the 512 calls that the document lets it be used for.
 */
public final class RandomRunsTest {
  private static final int RUNS = 300;
  private static final int CALLS = 160;
  private static final int MOST_CALLS = 512;
  /** At the most: 42 prices, 42 numbers, the sheet and the verdict. */
  private static final int CALLS_OF_A_PROOF = 86;
  private static final Set<String> ACTS = Set.of("stations", "siding", "section", "train", "time", "meet", "late", "wait",
      "run", "annul", "hand", "force", "grades", "undo", "sheet", "put", "copy");

  /** What each call takes, and how often it is chosen. */
  private static final String[] CALLS_TOLD = {
    "stations 1 count", "siding 2 station 0..30", "section 3 section 1..30",
    "train 5 0..3 station station 1..30 time", "as 1 train 0..3", "of 1 train 0..5", "time 2 train time",
    "due 1 train station", "over 1 train train", "meet 4 train train station", "late 3 train 1..120",
    "wait 3 train station 0..400", "run 5 train early", "annul 2 order", "hand 22 order train early",
    "holds 2 train order minute", "order 2 order 0..5", "force 2 train early", "where 4 train minute",
    "came 3 train station", "left 3 train station", "why 5 train minute", "heads 4", "head 4 0..3", "cause 5",
    "fouls 4", "delay 4", "best 2 0..3", "price 2 train train station", "proves 2 train train station sheet",
    "sheet 2 sheet bits 0..60", "put 4 sheet 0..8 small", "copy 2 sheet 0..8 sheet 0..8 0..8", "grades 2 sheet",
    "undo 3", "all 2 0..4"
  };

  private record Call(Method mine, Method due, String[] takes) {
  }

  /** How often each kind of answer came, to see what the runs reach: told when runs are asked for by hand. */
  private static final Map<String, Integer> answersSeen = new LinkedHashMap<>();
  private static int wrong = 0;
  /** How many calls the run's object was asked, and those of them that can have changed it. */
  private static int made = 0;
  private static final List<String> acts = new ArrayList<>();

  public static void main(String[] args) throws Exception {
    List<Call> calls = readCalls();
    int runs = args.length > 0 ? Integer.parseInt(args[0]) : RUNS;
    int first = args.length > 1 ? Integer.parseInt(args[1]) : 1;
    for (int seed = first; seed < first + runs && wrong < 5; seed++) {
      playRun(seed, calls);
    }
    if (args.length > 0) System.out.println(answersSeen);
    System.out.println(wrong == 0 ? runs + " random runs are answered as due" : wrong + " runs went wrong");
    if (wrong != 0) System.exit(1);
  }

  private static List<Call> readCalls() throws NoSuchMethodException {
    List<Call> calls = new ArrayList<>();
    for (String told : CALLS_TOLD) {
      String[] words = told.split(" ");
      Class<?>[] types = new Class<?>[words.length - 2];
      String[] takes = new String[words.length - 2];
      for (int i = 0; i < types.length; i++) {
        types[i] = int.class;
        takes[i] = words[i + 2];
      }
      Method mine = SidingLine.class.getMethod(words[0], types);
      Method due = NaiveLine.class.getDeclaredMethod(words[0], types);
      for (int i = 0; i < Integer.parseInt(words[1]); i++) calls.add(new Call(mine, due, takes));
    }
    return calls;
  }

  private static void playRun(int seed, List<Call> calls) throws Exception {
    Random random = new Random(seed);
    SidingLine mine = new SidingLine();
    NaiveLine due = new NaiveLine();
    List<String> told = new ArrayList<>();
    made = 0;
    acts.clear();
    prepare(random, mine, due, told);
    for (int i = 0; i < CALLS; i++) {
      Call call = calls.get(random.nextInt(calls.size()));
      Integer[] with = new Integer[call.takes.length];
      for (int j = 0; j < with.length; j++) with[j] = argument(random, call.takes[j], due);
      if (!isSame(seed, call, with, mine, due, told)) return;
      boolean hasRoom = made + CALLS_OF_A_PROOF + CALLS - i + calls.size() < MOST_CALLS;
      if (random.nextInt(50) == 0 && hasRoom) checkProof(random, mine, due, told, seed);
    }
    for (Call call : calls) {
      if (call.takes.length == 0 && !call.mine.getName().equals("undo")
          && !isSame(seed, call, new Integer[0], mine, due, told)) {
        return;
      }
    }
    checkWholeDay(seed, due, told);
  }

  /** Each minute of each train, asked of new objects with the same past, as many as it takes. */
  private static void checkWholeDay(int seed, NaiveLine due, List<String> told) {
    NaiveLine.Played day = due.day();
    SidingLine mine = null;
    int left = 0;
    for (int t = 0; t < due.now.trains.size(); t++) {
      for (int m = 0; m <= 500; m++) {
        if (left < 2) {
          mine = new SidingLine();
          for (String act : acts) Calls.ask(mine, act);
          left = MOST_CALLS - acts.size();
        }
        left -= 2;
        int why = mine.why(t, m);
        if (mine.where(t, m) != day.where[t][m] || why != day.why[t][m]) {
          wrong++;
          System.out.println("seed " + seed + ": train " + t + ", minute " + m + " is not as due, behind " + told);
          return;
        }
        if (why >= 0) answersSeen.merge("why" + why, 1, Integer::sum);
      }
    }
  }

  private static void note(String name, Object... with) {
    made++;
    if (!ACTS.contains(name)) return;
    StringBuilder act = new StringBuilder(name);
    for (Object v : with) act.append(' ').append(v);
    acts.add(act.toString());
  }

  private static boolean isSame(int seed, Call call, Integer[] with, SidingLine mine, NaiveLine due,
      List<String> told) throws Exception {
    note(call.mine.getName(), (Object[]) with);
    int got = (Integer) call.mine.invoke(mine, (Object[]) with);
    int want = (Integer) call.due.invoke(due, (Object[]) with);
    String text = call.mine.getName() + List.of(with);
    told.add(text + " = " + want);
    if (want < -99999) answersSeen.merge(call.mine.getName() + want, 1, Integer::sum);
    if (call.takes.length == 0 && want >= 0 && want < 6) answersSeen.merge(text + want, 1, Integer::sum);
    if (got == want) return true;
    wrong++;
    System.out.println("seed " + seed + ": " + text + " answered " + got + ", due is " + want + ", behind " + told);
    return false;
  }

  /** A day with some life: trains both ways, most with what they need to run. */
  private static void prepare(Random random, SidingLine mine, NaiveLine due, List<String> told) {
    int n = 2 + random.nextInt(6);
    note("stations", n);
    mine.stations(n);
    due.stations(n);
    told.add("stations " + n);
    int count = random.nextInt(6);
    for (int t = 0; t < count; t++) {
      int kind = random.nextInt(4);
      int from = random.nextInt(3) == 0 ? random.nextInt(n) : t % 2 == 0 ? 0 : n - 1;
      int to = random.nextInt(3) == 0 ? random.nextInt(n) : t % 2 == 0 ? n - 1 : 0;
      int length = 1 + random.nextInt(20);
      int time = random.nextInt(80);
      note("train", kind, from, to, length, time);
      mine.train(kind, from, to, length, time);
      due.train(kind, from, to, length, time);
      told.add("train " + List.of(kind, from, to, length, time));
    }
    for (int t = 0; t < due.now.trains.size(); t++) {
      if (due.now.trains.get(t).kind() % 3 == 0 && random.nextInt(5) > 0) {
        int v = random.nextInt(100);
        note("run", t, v);
        int k = mine.run(t, v);
        due.run(t, v);
        note("hand", k, t, v / 2);
        mine.hand(k, t, v / 2);
        due.hand(k, t, v / 2);
        told.add("run and hand " + List.of(t, v, k));
      }
    }
  }

  /** Writes a whole proof on a sheet, as the class itself prices the meets, and asks for the verdict on it. */
  private static void checkProof(Random random, SidingLine mine, NaiveLine due, List<String> told, int seed) {
    int count = 0;
    int[] prices = new int[60];
    for (int a = 0; a < due.now.trains.size(); a++) {
      for (int b = a + 1; b < due.now.trains.size(); b++) {
        boolean contrary = due.now.trains.get(a).way() != due.now.trains.get(b).way();
        for (int s = 0; contrary && s < due.now.n; s++) {
          note("price");
          prices[count++] = mine.price(b, a, s);
        }
      }
    }
    if (count == 0) return;
    int s = random.nextInt(4);
    int bits = 8 << random.nextInt(3);
    note("sheet", s, bits, count);
    mine.sheet(s, bits, count);
    due.sheet(s, bits, count);
    for (int i = 0; i < count; i++) {
      int v = prices[i] + (random.nextInt(80) == 0 ? 1 : 0);
      note("put", s, i, v);
      mine.put(s, i, v);
      due.put(s, i, v);
    }
    int a = due.best(0);
    int b = due.best(1);
    int station = due.best(2);
    int want = due.proves(b, a, station, s);
    note("proves");
    int got = mine.proves(b, a, station, s);
    told.add("proof of " + List.of(b, a, station, s) + " = " + want);
    answersSeen.merge(want == -1 ? "proofs" : "no proofs", 1, Integer::sum);
    if (got != want) {
      wrong++;
      System.out.println("seed " + seed + ": proof answered " + got + ", due is " + want + ", behind " + told);
    }
  }

  private static int argument(Random random, String takes, NaiveLine due) {
    if (random.nextInt(60) == 0) {
      int[] wild = {Integer.MIN_VALUE, Integer.MAX_VALUE, -1, 1 << 16, random.nextInt()};
      return wild[random.nextInt(wild.length)];
    }
    if (takes.contains("..")) {
      String[] ends = takes.split("\\.\\.");
      return between(random, Integer.parseInt(ends[0]), Integer.parseInt(ends[1]));
    }
    return switch (takes) {
      case "count" -> between(random, 2, 7);
      case "station" -> between(random, 0, due.now.n - 1);
      case "section" -> between(random, 0, due.now.n - 2);
      case "train" -> between(random, 0, due.now.trains.size() - 1);
      case "order" -> between(random, 0, due.now.orders.size() - 1);
      case "time" -> random.nextInt(3) == 0 ? between(random, 0, 300) : random.nextInt(60);
      case "early" -> random.nextInt(3) == 0 ? between(random, 0, 400) : random.nextInt(90);
      case "minute" -> random.nextInt(4) == 0 ? between(random, 0, 500) : random.nextInt(150);
      case "sheet" -> between(random, 0, 3);
      case "bits" -> new int[] {0, 8, 16, 32, 8, 16, 32, 7, 64, -8}[random.nextInt(10)];
      case "small" -> random.nextInt(4) == 0 ? random.nextInt() : 1 + random.nextInt(30);
      default -> throw new IllegalStateException(takes);
    };
  }

  /** Mostly within, often at an end, sometimes one beyond. */
  private static int between(Random random, int least, int greatest) {
    int choice = random.nextInt(24);
    if (choice == 0) return least - 1;
    if (choice == 1) return greatest + 1;
    if (choice == 2) return least;
    if (choice == 3) return greatest;
    return greatest < least ? least : least + random.nextInt(greatest - least + 1);
  }
}
