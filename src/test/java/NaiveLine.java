import java.util.ArrayList;
import java.util.HashSet;
import java.util.List;
import java.util.Set;

/**
 * The document said a second time, in the plainest words and without any thrift: lists, no kept answers, every
 * rule read from the orders anew in every minute. RandomRunsTest holds SidingLine against it.
 */
final class NaiveLine {
  static final int BEYOND = -100001, MISSING = -100002, SIZE = -100003, KIND = -100004, FULL = -100005,
      NONE = -100006, TAKEN = -100007;

  record Train(int kind, int from, int to, int length, int time) {
    int way() {
      return to > from ? 0 : 1;
    }
  }

  record Order(int form, int a, int b, int station, int v, Integer[] handed) {
    Order copied() {
      return new Order(form, a, b, station, v, handed.clone());
    }
  }

  record Forced(int train, int minute) {
  }

  static final class State {
    int n = 3;
    int[] sidings = {10, 10, 10, 10, 10, 10, 10};
    int[] sections = {10, 10, 10, 10, 10, 10};
    List<Train> trains = new ArrayList<>();
    List<Order> orders = new ArrayList<>();
    List<Forced> forced = new ArrayList<>();

    State copied() {
      State c = new State();
      c.n = n;
      c.sidings = sidings.clone();
      c.sections = sections.clone();
      c.trains = new ArrayList<>(trains);
      for (Order o : orders) {
        c.orders.add(o.copied());
      }
      c.forced = new ArrayList<>(forced);
      return c;
    }
  }

  State now = new State();
  List<State> past = new ArrayList<>();
  int[][] sheetNumbers = new int[4][];
  int[] sheetBits = new int[4];
  int findings = 0;

  private int found(int code) {
    findings++;
    return code;
  }

  private void acts() {
    past.add(now.copied());
    if (past.size() > 16) {
      past.remove(0);
    }
  }

  private boolean isTrain(int t) {
    return t >= 0 && t < now.trains.size();
  }

  private boolean isStation(int s) {
    return s >= 0 && s < now.n;
  }

  private boolean isOrder(int k) {
    return k >= 0 && k < now.orders.size();
  }

  private static boolean in(int v, int low, int high) {
    return low <= v && v <= high;
  }

  int stations(int n) {
    if (!in(n, 2, 7)) return found(BEYOND);
    for (Train t : now.trains) if (t.from >= n || t.to >= n) return found(TAKEN);
    for (Order o : now.orders) if ((o.form == 0 || o.form == 2) && o.station >= n) return found(TAKEN);
    acts();
    int was = now.n;
    now.n = n;
    return was;
  }

  int siding(int station, int v) {
    if (!isStation(station) || !in(v, 0, 30)) return found(BEYOND);
    acts();
    int was = now.sidings[station];
    now.sidings[station] = v;
    return was;
  }

  int section(int i, int v) {
    if (!in(i, 0, now.n - 2) || !in(v, 1, 30)) return found(BEYOND);
    acts();
    int was = now.sections[i];
    now.sections[i] = v;
    return was;
  }

  int train(int kind, int from, int to, int length, int time) {
    if (!in(kind, 0, 3) || !isStation(from) || !isStation(to) || !in(length, 1, 30) || !in(time, 0, 300)) {
      return found(BEYOND);
    }
    if (from == to) return found(SIZE);
    if (now.trains.size() == 5) return found(FULL);
    acts();
    now.trains.add(new Train(kind, from, to, length, time));
    return now.trains.size() - 1;
  }

  int as(int train, int kind) {
    if (!isTrain(train) || !in(kind, 0, 3)) return found(BEYOND);
    int k = now.trains.get(train).kind;
    boolean is = switch (kind) {
      case 0 -> true;
      case 1 -> k == 1 || k == 2;
      case 2 -> k == 2;
      default -> k == 3;
    };
    return is ? train : found(KIND);
  }

  int of(int train, int what) {
    if (!isTrain(train) || !in(what, 0, 5)) return found(BEYOND);
    Train t = now.trains.get(train);
    return new int[] {t.kind, t.from, t.to, t.length, t.time, t.way()}[what];
  }

  int time(int train, int v) {
    if (!isTrain(train) || !in(v, 0, 300)) return found(BEYOND);
    acts();
    Train t = now.trains.get(train);
    now.trains.set(train, new Train(t.kind, t.from, t.to, t.length, v));
    return t.time;
  }

  private int minutesFromTo(int from, int to) {
    int sum = 0;
    int s = from;
    while (s != to) {
      if (to > s) {
        sum += now.sections[s];
        s++;
      } else {
        s--;
        sum += now.sections[s];
      }
    }
    return sum;
  }

  private int dueOf(Train t, int station) {
    return t.time + minutesFromTo(t.from, station);
  }

  int due(int train, int station) {
    if (!isTrain(train) || !isStation(station)) return found(BEYOND);
    Train t = now.trains.get(train);
    boolean onWay = t.way() == 0 ? in(station, t.from, t.to) : in(station, t.to, t.from);
    return onWay ? dueOf(t, station) : found(NONE);
  }

  private static boolean superior(int kind, int way, int otherKind) {
    if (kind == 2 && otherKind != 2) return true;
    if (otherKind == 2 && kind != 2) return false;
    if (kind == 1 && (otherKind == 0 || otherKind == 3)) return true;
    if (otherKind == 1 && (kind == 0 || kind == 3)) return false;
    return way == 0;
  }

  int over(int train, int other) {
    if (!isTrain(train) || !isTrain(other)) return found(BEYOND);
    Train a = now.trains.get(train);
    Train b = now.trains.get(other);
    if (a.way() == b.way()) return found(SIZE);
    return superior(a.kind, a.way(), b.kind) ? 1 : 0;
  }

  private int add(int form, int a, int b, int station, int v) {
    if (now.orders.size() == 12) return found(FULL);
    acts();
    now.orders.add(new Order(form, a, b, station, v, new Integer[5]));
    return now.orders.size() - 1;
  }

  int meet(int a, int b, int station) {
    if (!isTrain(a) || !isTrain(b) || !isStation(station)) return found(BEYOND);
    if (now.trains.get(a).way() == now.trains.get(b).way()) return found(SIZE);
    return add(0, a, b, station, 0);
  }

  int late(int a, int v) {
    if (!isTrain(a) || !in(v, 1, 120)) return found(BEYOND);
    return add(1, a, -1, -1, v);
  }

  int wait(int a, int station, int v) {
    if (!isTrain(a) || !isStation(station) || !in(v, 0, 400)) return found(BEYOND);
    return add(2, a, -1, station, v);
  }

  int run(int a, int v) {
    if (!isTrain(a) || !in(v, 0, 400)) return found(BEYOND);
    return add(3, a, -1, -1, v);
  }

  int annul(int order) {
    if (!isOrder(order)) return found(BEYOND);
    return add(4, order, -1, -1, 0);
  }

  int hand(int order, int train, int minute) {
    if (!isOrder(order) || !isTrain(train) || !in(minute, 0, 400)) return found(BEYOND);
    acts();
    Integer[] handed = now.orders.get(order).handed;
    Integer was = handed[train];
    handed[train] = was == null ? minute : Math.min(was, minute);
    return was == null ? -1 : was;
  }

  private boolean held(List<Order> orders, int train, int order, int minute) {
    Integer when = orders.get(order).handed[train];
    if (when == null || when > minute) return false;
    for (int k = 0; k < orders.size(); k++) {
      if (orders.get(k).form == 4 && orders.get(k).a == order && held(orders, train, k, minute)) return false;
    }
    return true;
  }

  int holds(int train, int order, int minute) {
    if (!isTrain(train) || !isOrder(order) || !in(minute, 0, 500)) return found(BEYOND);
    return held(now.orders, train, order, minute) ? 1 : 0;
  }

  int order(int order, int what) {
    if (!isOrder(order) || !in(what, 0, 5)) return found(BEYOND);
    Order o = now.orders.get(order);
    int bits = 0;
    for (int t = 0; t < 5; t++) if (o.handed[t] != null) bits += 1 << t;
    return new int[] {o.form, o.a, o.b, o.station, o.v, bits}[what];
  }

  int force(int train, int minute) {
    if (!isTrain(train) || !in(minute, 0, 500)) return found(BEYOND);
    if (now.forced.size() == 6) return found(FULL);
    acts();
    now.forced.add(new Forced(train, minute));
    return now.forced.size();
  }

  /** One day, with all that is ever asked of it. */
  final class Played {
    final List<Order> orders;
    final int count = now.trains.size();
    final int[][] where = new int[count][501];
    final int[][] why = new int[count][501];
    final Integer[][] came = new Integer[count][7];
    final Integer[][] left = new Integer[count][7];
    final Integer[] off = new Integer[count];
    final List<int[]> headOns = new ArrayList<>();
    int fouls = 0;

    // how each train stands: AT a station, or in a section that it left for, or neither
    final Integer[] at = new Integer[count];
    final Integer[] sectionOf = new Integer[count];
    final int[] leftWhen = new int[count];
    final int[] way = new int[count];
    final boolean[] turned = new boolean[count];
    final List<Set<Integer>> beenThere = new ArrayList<>();
    final List<Set<Integer>> beenBack = new ArrayList<>();
    // rows of minute, station, way
    final List<int[]> leavings = new ArrayList<>();

    Played(List<Order> orders) {
      this.orders = orders;
      for (int t = 0; t < count; t++) {
        way[t] = now.trains.get(t).way();
        beenThere.add(new HashSet<>());
        beenBack.add(new HashSet<>());
      }
      for (int m = 0; m <= 500; m++) minute(m);
    }

    private void minute(int m) {
      for (int t = 0; t < count; t++) {
        if (sectionOf[t] != null && m == leftWhen[t] + now.sections[sectionOf[t]]) comesIn(t, m);
      }
      for (int t = 0; t < count; t++) {
        if (now.trains.get(t).time == m) isAt(t, now.trains.get(t).from, m);
      }
      for (int t = 0; t < count; t++) {
        why[t][m] = NONE;
        if (at[t] != null) {
          why[t][m] = now.forced.contains(new Forced(t, m)) ? 0 : rule(t, m);
          if (why[t][m] == 0) leaves(t, m);
        }
      }
      for (int a = 0; a < count; a++) {
        for (int b = a + 1; b < count; b++) {
          if (sectionOf[a] != null && sectionOf[a].equals(sectionOf[b]) && way[a] != way[b]) headOn(m, a, b);
        }
      }
      for (int t = 0; t < count; t++) {
        where[t][m] = off[t] != null ? 300 : at[t] != null ? at[t] : sectionOf[t] != null ? 100 + sectionOf[t] : 200;
      }
    }

    private void headOn(int m, int a, int b) {
      for (int[] h : headOns) if (h[2] == a && h[3] == b) return;
      headOns.add(new int[] {m, sectionOf[a], a, b, Math.max(leftWhen[a], leftWhen[b])});
    }

    private void isAt(int t, int station, int m) {
      at[t] = station;
      sectionOf[t] = null;
      (turned[t] ? beenBack : beenThere).get(t).add(station);
      if (came[t][station] == null) came[t][station] = m;
    }

    private void comesIn(int t, int m) {
      Train train = now.trains.get(t);
      int station = way[t] == 0 ? sectionOf[t] + 1 : sectionOf[t];
      boolean last = turned[t] ? station == train.from : station == train.to;
      if (last && (train.kind != 3 || turned[t])) {
        isAt(t, station, m);
        at[t] = null;
        off[t] = m;
        return;
      }
      List<Integer> others = new ArrayList<>();
      for (int o = 0; o < count; o++) if (o != t && at[o] != null && at[o] == station) others.add(o);
      if (others.size() >= 2) fouls++;
      if (others.size() == 1 && train.length > now.sidings[station]
          && now.trains.get(others.get(0)).length > now.sidings[station]) {
        fouls++;
      }
      if (last) {
        turned[t] = true;
        way[t] = 1 - way[t];
      }
      isAt(t, station, m);
    }

    private void leaves(int t, int m) {
      int station = at[t];
      if (left[t][station] == null) left[t][station] = m;
      leavings.add(new int[] {m, station, way[t]});
      sectionOf[t] = way[t] == 0 ? station : station - 1;
      leftWhen[t] = m;
      at[t] = null;
    }

    private boolean has(int t, int k, int m) {
      return held(orders, t, k, m);
    }

    private int latesOf(int who, int holder, int m) {
      int sum = 0;
      for (int k = 0; k < orders.size(); k++) {
        if (orders.get(k).form == 1 && orders.get(k).a == who && has(holder, k, m)) sum += orders.get(k).v;
      }
      return sum;
    }

    private int rule(int t, int m) {
      int station = at[t];
      if (!one(t, station, m)) return 1;
      if (!two(t, station, m)) return 2;
      if (!three(t, station, m)) return 3;
      if (!four(t, station, m)) return 4;
      for (int[] l : leavings) if (l[1] == station && l[2] == way[t] && m - l[0] < 10) return 5;
      return 0;
    }

    private boolean one(int t, int station, int m) {
      Train train = now.trains.get(t);
      if (train.kind == 1 || train.kind == 2) return m >= dueOf(train, station) + latesOf(t, t, m);
      for (int k = 0; k < orders.size(); k++) {
        Order o = orders.get(k);
        if (o.form == 3 && o.a == t && o.v <= m && has(t, k, m)) return true;
      }
      return false;
    }

    private boolean two(int t, int station, int m) {
      for (int k = 0; k < orders.size(); k++) {
        Order o = orders.get(k);
        if (o.form == 2 && o.a == t && o.station == station && o.v > m && has(t, k, m)) return false;
      }
      return true;
    }

    private boolean three(int t, int station, int m) {
      for (int k = 0; k < orders.size(); k++) {
        Order o = orders.get(k);
        if (o.form != 0 || o.station != station || (o.a != t && o.b != t) || !has(t, k, m)) continue;
        int other = o.a == t ? o.b : o.a;
        boolean was = beenThere.get(other).contains(station) || beenBack.get(other).contains(station);
        if (!was && off[other] == null) return false;
      }
      return true;
    }

    private boolean four(int t, int station, int m) {
      int section = way[t] == 0 ? station : station - 1;
      int next = way[t] == 0 ? station + 1 : station - 1;
      for (int o = 0; o < count; o++) {
        Train other = now.trains.get(o);
        if (way[o] == way[t] || !superior(other.kind, way[o], now.trains.get(t).kind)) continue;
        boolean goesOver = other.from < other.to
            ? section >= other.from && section < other.to
            : section >= other.to && section < other.from;
        if (!goesOver || off[o] != null) continue;
        if ((turned[o] ? beenBack : beenThere).get(o).contains(station)) continue;
        boolean meets = false;
        for (int k = 0; k < orders.size(); k++) {
          Order d = orders.get(k);
          boolean both = d.form == 0 && (d.a == t && d.b == o || d.a == o && d.b == t);
          boolean beyond = way[t] == 0 ? d.station >= next : d.station <= next;
          if (both && beyond && has(t, k, m)) meets = true;
        }
        if (meets) continue;
        boolean table = other.kind == 1 || other.kind == 2;
        if (table && m + now.sections[section] + 5 <= dueOf(other, next) + latesOf(o, t, m)) continue;
        return false;
      }
      return true;
    }

    int delay() {
      int sum = 0;
      for (int t = 0; t < count; t++) {
        Train train = now.trains.get(t);
        int whole = minutesFromTo(train.from, train.to);
        sum += off[t] == null ? 1000 : off[t] - train.time - (train.kind == 3 ? 2 : 1) * whole;
      }
      return sum;
    }
  }

  Played day() {
    return new Played(now.orders);
  }

  int where(int train, int minute) {
    if (!isTrain(train) || !in(minute, 0, 500)) return found(BEYOND);
    return day().where[train][minute];
  }

  int came(int train, int station) {
    if (!isTrain(train) || !isStation(station)) return found(BEYOND);
    Integer m = day().came[train][station];
    return m == null ? found(NONE) : m;
  }

  int left(int train, int station) {
    if (!isTrain(train) || !isStation(station)) return found(BEYOND);
    Integer m = day().left[train][station];
    return m == null ? found(NONE) : m;
  }

  int why(int train, int minute) {
    if (!isTrain(train) || !in(minute, 0, 500)) return found(BEYOND);
    int w = day().why[train][minute];
    return w == NONE ? found(NONE) : w;
  }

  int heads() {
    return day().headOns.size();
  }

  int head(int what) {
    List<int[]> all = day().headOns;
    if (all.isEmpty()) return found(NONE);
    return in(what, 0, 3) ? all.get(0)[what] : found(BEYOND);
  }

  int cause() {
    List<int[]> all = day().headOns;
    if (all.isEmpty()) return found(NONE);
    int[] h = all.get(0);
    for (int k = 0; k < now.orders.size(); k++) {
      Order o = now.orders.get(k);
      boolean about = o.form == 0 && (o.a == h[2] && o.b == h[3] || o.a == h[3] && o.b == h[2])
          || o.form >= 1 && o.form <= 3 && (o.a == h[2] || o.a == h[3]);
      if (about && held(now.orders, h[2], k, h[4]) != held(now.orders, h[3], k, h[4])) return k;
    }
    return found(NONE);
  }

  int fouls() {
    return day().fouls;
  }

  int delay() {
    return day().delay();
  }

  private List<int[]> meetsThatCanBe() {
    List<int[]> all = new ArrayList<>();
    for (int a = 0; a < now.trains.size(); a++) {
      for (int b = a + 1; b < now.trains.size(); b++) {
        if (now.trains.get(a).way() == now.trains.get(b).way()) continue;
        for (int s = 0; s < now.n; s++) all.add(new int[] {a, b, s});
      }
    }
    return all;
  }

  private Played dayWith(int[] meet) {
    List<Order> more = new ArrayList<>(now.orders);
    Integer[] handed = new Integer[5];
    handed[meet[0]] = 0;
    handed[meet[1]] = 0;
    more.add(new Order(0, meet[0], meet[1], meet[2], 0, handed));
    return new Played(more);
  }

  private int priceOf(int[] meet) {
    Played p = dayWith(meet);
    return 100000 * p.headOns.size() + p.delay();
  }

  private int[] bestOf(List<int[]> all) {
    int[] best = null;
    int heads = 0;
    int delay = 0;
    for (int[] meet : all) {
      Played p = dayWith(meet);
      int h = p.headOns.size();
      int d = p.delay();
      if (best == null || h < heads || h == heads && d < delay) {
        best = meet;
        heads = h;
        delay = d;
      }
    }
    return best;
  }

  int best(int what) {
    List<int[]> all = meetsThatCanBe();
    if (all.isEmpty()) return found(NONE);
    if (!in(what, 0, 3)) return found(BEYOND);
    int[] best = bestOf(all);
    return what < 3 ? best[what] : priceOf(best);
  }

  int price(int a, int b, int station) {
    if (!isTrain(a) || !isTrain(b) || !isStation(station)) return found(BEYOND);
    if (now.trains.get(a).way() == now.trains.get(b).way()) return found(SIZE);
    return priceOf(new int[] {a, b, station});
  }

  int proves(int a, int b, int station, int sheet) {
    if (!isTrain(a) || !isTrain(b) || !isStation(station) || !in(sheet, 0, 3)) return found(BEYOND);
    if (now.trains.get(a).way() == now.trains.get(b).way()) return found(SIZE);
    if (sheetNumbers[sheet] == null) return found(MISSING);
    List<int[]> all = meetsThatCanBe();
    int[] best = bestOf(all);
    if (best[0] != Math.min(a, b) || best[1] != Math.max(a, b) || best[2] != station) return found(KIND);
    if (sheetNumbers[sheet].length != all.size()) return all.size();
    for (int i = 0; i < all.size(); i++) {
      if (sheetNumbers[sheet][i] != narrow(priceOf(all.get(i)), sheetBits[sheet])) return i;
    }
    return -1;
  }

  private static int narrow(int v, int bits) {
    return bits == 8 ? (byte) v : bits == 16 ? (short) v : v;
  }

  int sheet(int s, int bits, int n) {
    if (!in(s, 0, 3) || bits != 0 && bits != 8 && bits != 16 && bits != 32) return found(BEYOND);
    if (n < 0) return found(SIZE);
    if (n > 60) return found(BEYOND);
    sheetNumbers[s] = bits == 0 ? null : new int[n];
    sheetBits[s] = bits;
    return bits == 0 ? 0 : n;
  }

  int put(int s, int i, int v) {
    if (!in(s, 0, 3)) return found(BEYOND);
    if (sheetNumbers[s] == null) return found(MISSING);
    if (!in(i, 0, sheetNumbers[s].length - 1)) return found(BEYOND);
    sheetNumbers[s][i] = narrow(v, sheetBits[s]);
    return 0;
  }

  int copy(int s, int from, int t, int to, int n) {
    if (!in(s, 0, 3) || !in(t, 0, 3)) return found(BEYOND);
    if (sheetNumbers[s] == null || sheetNumbers[t] == null) return found(MISSING);
    if (sheetBits[s] != sheetBits[t]) return found(KIND);
    if (from < 0 || to < 0 || n < 0) return found(BEYOND);
    if ((long) from + n > sheetNumbers[s].length || (long) to + n > sheetNumbers[t].length) return found(BEYOND);
    int[] taken = sheetNumbers[s].clone();
    for (int i = 0; i < n; i++) sheetNumbers[t][to + i] = taken[from + i];
    return n;
  }

  int grades(int s) {
    if (!in(s, 0, 3)) return found(BEYOND);
    if (sheetNumbers[s] == null) return found(MISSING);
    int used = Math.min(sheetNumbers[s].length, now.n - 1);
    for (int i = 0; i < used; i++) if (!in(sheetNumbers[s][i], 1, 30)) return found(BEYOND);
    acts();
    for (int i = 0; i < used; i++) now.sections[i] = sheetNumbers[s][i];
    return used;
  }

  int undo() {
    if (past.isEmpty()) return found(NONE);
    now = past.remove(past.size() - 1);
    return past.size();
  }

  int all(int what) {
    if (!in(what, 0, 4)) return found(BEYOND);
    return new int[] {now.n, now.trains.size(), now.orders.size(), now.forced.size(), findings}[what];
  }
}
