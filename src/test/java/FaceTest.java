import java.lang.management.ManagementFactory;
import java.lang.reflect.Field;
import java.lang.reflect.Method;
import java.lang.reflect.Modifier;
import java.util.ArrayList;
import java.util.List;
import java.util.Set;
import java.util.TreeSet;

/** The document's face, word for word, what of LANGUAGE.md can be seen from outside, and that calls make nothing. */
public final class FaceTest {
  private static final String[] FACE = {
    "stations 1", "siding 2", "section 2", "train 5", "as 2", "of 2", "time 2", "due 2", "over 2", "meet 3", "late 2",
    "wait 3", "run 2", "annul 1", "hand 3", "holds 3", "order 2", "force 2", "where 2", "came 2", "left 2", "why 2",
    "heads 0", "head 1", "cause 0", "fouls 0", "delay 0", "best 1", "price 3", "proves 4", "sheet 3", "put 3",
    "copy 5", "grades 1", "undo 0", "all 1"
  };

  private static int wrong = 0;

  private static void must(boolean stands, String what) {
    if (!stands) {
      wrong++;
      System.out.println("not so: " + what);
    }
  }

  public static void main(String[] args) {
    checkFace();
    checkPrivacy();
    checkRoom();
    System.out.println(wrong == 0 ? "the face is as due" : wrong + " things are not as due");
    if (wrong != 0) System.exit(1);
  }

  private static void checkFace() {
    Class<?> c = SidingLine.class;
    must(Modifier.isPublic(c.getModifiers()) && Modifier.isFinal(c.getModifiers()), "public and final");
    must(c.getConstructors().length == 1 && c.getDeclaredConstructors().length == 1, "one constructor");
    must(c.getConstructors()[0].getParameterCount() == 0, "the constructor takes nothing");
    Set<String> want = new TreeSet<>(List.of(FACE));
    Set<String> got = new TreeSet<>();
    for (Method m : c.getDeclaredMethods()) {
      if (!Modifier.isPublic(m.getModifiers())) continue;
      got.add(m.getName() + " " + m.getParameterCount());
      must(m.getReturnType() == int.class && !Modifier.isStatic(m.getModifiers()), m + " is as due");
      for (Class<?> type : m.getParameterTypes()) must(type == int.class, m + " takes ints");
    }
    must(got.equals(want), "the methods are " + want + ", but there are " + got);
  }

  private static void checkPrivacy() {
    Set<String> face = new TreeSet<>();
    for (String told : FACE) face.add(told.substring(0, told.indexOf(' ')));
    List<Class<?>> classes = new ArrayList<>(List.of(SidingLine.class.getDeclaredClasses()));
    must(classes.size() <= 11, "at most twelve classes");
    for (Class<?> inner : classes) {
      must(Modifier.isStatic(inner.getModifiers()), inner + " is static");
      must(!Modifier.isPublic(inner.getModifiers()), inner + " is not public");
      for (Method m : inner.getDeclaredMethods()) must(!face.contains(m.getName()), m + " bears a name of the face");
      must(inner.getDeclaredFields().length < 30, inner + " has few fields");
    }
    for (Method m : SidingLine.class.getDeclaredMethods()) {
      boolean isPublic = Modifier.isPublic(m.getModifiers());
      must(isPublic || Modifier.isPrivate(m.getModifiers()), m + " is private");
      must(isPublic || !face.contains(m.getName()), m + " bears a name of the face");
      must(m.getParameterCount() <= 7, m + " takes at most seven");
    }
    for (Field f : SidingLine.class.getDeclaredFields()) {
      must(Modifier.isPrivate(f.getModifiers()), f + " is private");
      must(!Modifier.isStatic(f.getModifiers()) || Modifier.isFinal(f.getModifiers()), f + " is final");
    }
  }

  /** A call makes nothing: what an object needs it makes when it is made. */
  private static void checkRoom() {
    SidingLine x = new SidingLine();
    dearCalls(x);
    var bean = (com.sun.management.ThreadMXBean) ManagementFactory.getThreadMXBean();
    long id = Thread.currentThread().getId();
    long before = bean.getThreadAllocatedBytes(id);
    long idle = bean.getThreadAllocatedBytes(id) - before;
    before = bean.getThreadAllocatedBytes(id);
    dearCalls(x);
    long made = bean.getThreadAllocatedBytes(id) - before - idle;
    must(made < 1000, "calls make nothing, but they made " + made + " bytes");
  }

  private static void dearCalls(SidingLine x) {
    x.stations(7);
    for (int t = 0; t < 5; t++) x.train(t % 4, t % 2 == 0 ? 0 : 6, t % 2 == 0 ? 6 : 0, 9, t);
    for (int i = 0; i < 20; i++) {
      x.section(i % 6, 1 + i);
      x.late(1, 5);
      x.hand(i % 12, i % 5, i);
      x.best(0);
      x.delay();
      x.sheet(0, 16, 42);
      x.proves(0, 1, 0, 0);
      x.where(0, 9);
      x.undo();
    }
  }
}
