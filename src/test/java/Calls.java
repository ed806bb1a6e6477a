import java.lang.reflect.Method;
import java.util.Arrays;
import java.util.HashMap;
import java.util.Map;

/** Calls told as text ("train 1 0 2 8 0"), made on a SidingLine or on a NaiveLine. */
final class Calls {
  private static final Map<String, Method> known = new HashMap<>();

  private Calls() {
  }

  /** A line of five stations with each kind of train, each form of order, a head on with a cause, and sheets. */
  static final String[] RICH = {
    "stations 5", "siding 1 7", "siding 3 0", "section 2 17", "train 1 0 4 8 0", "train 1 4 0 9 0", "train 3 2 0 6 3",
    "train 2 4 1 30 60", "run 2 5", "late 3 10", "wait 0 1 30", "meet 0 1 2", "annul 2", "hand 0 2 0", "hand 1 3 20",
    "hand 2 0 0", "hand 3 0 5", "hand 4 0 25", "hand 4 1 400",
    "force 1 5", "force 0 36", "force 1 40", "sheet 0 8 4", "put 0 0 5", "put 0 1 6", "put 0 2 7", "put 0 3 8",
    "sheet 1 8 6", "put 1 0 31", "sheet 2 16 60",
  };

  /** What makes the rich line full: five trains, twelve orders, six forced. */
  static final String[] FILL = {
    "train 0 4 2 1 300", "run 4 0", "run 0 0", "run 1 0", "meet 3 0 4", "late 0 1", "annul 4", "annul 10", "hand 10 0 26",
    "hand 11 0 27", "force 3 60", "force 4 300", "force 4 400",
  };

  static int ask(Object line, String told) {
    String[] words = told.split(" ");
    int[] with = new int[words.length - 1];
    for (int i = 0; i < with.length; i++) with[i] = Integer.parseInt(words[i + 1]);
    return ask(line, words[0], with);
  }

  static int ask(Object line, String name, int... with) {
    Object[] boxed = new Object[with.length];
    for (int i = 0; i < with.length; i++) boxed[i] = with[i];
    try {
      return (Integer) method(line.getClass(), name, with.length).invoke(line, boxed);
    } catch (ReflectiveOperationException e) {
      throw new IllegalStateException(name + " " + Arrays.toString(with), e);
    }
  }

  /** Calls that must not answer a finding. */
  static void prepare(Object line, String... rows) {
    for (String told : rows) {
      if (ask(line, told) < -99999) throw new IllegalStateException(told + " answers a finding");
    }
  }

  static String[] join(String[] one, String... other) {
    String[] both = Arrays.copyOf(one, one.length + other.length);
    System.arraycopy(other, 0, both, one.length, other.length);
    return both;
  }

  private static Method method(Class<?> of, String name, int count) throws NoSuchMethodException {
    String key = of.getName() + " " + name;
    Method found = known.get(key);
    if (found == null) {
      Class<?>[] types = new Class<?>[count];
      Arrays.fill(types, int.class);
      found = of.getDeclaredMethod(name, types);
      known.put(key, found);
    }
    return found;
  }
}
