import java.util.Arrays;

/**
 * A single-track line run by timetable and written orders: the numbers of the promises at the methods are
 * those of the document.
 */
public final class SidingLine {
  private static final int BEYOND = -100001;
  private static final int MISSING = -100002;
  private static final int SIZE = -100003;
  private static final int KIND = -100004;
  private static final int FULL = -100005;
  private static final int NONE = -100006;
  private static final int TAKEN = -100007;

  private static final int LEAST_STATIONS = 2;
  private static final int MOST_STATIONS = 7;
  private static final int MOST_TRAINS = 5;
  private static final int MOST_ORDERS = 12;
  private static final int MOST_FORCED = 6;
  private static final int MOST_UNDONE = 16;
  private static final int MOST_SHEETS = 4;
  private static final int MOST_NUMBERS = 60;

  private static final int LONGEST = 30;
  private static final int LATEST_TIME = 300;
  private static final int LATEST_LATE = 120;
  private static final int LATEST_ORDER = 400;
  private static final int LAST_MINUTE = 500;
  private static final int MINUTES = LAST_MINUTE + 1;

  private static final int EXTRA = 0;
  private static final int REGULAR = 1;
  private static final int MAIL = 2;
  private static final int WORK = 3;
  private static final int KINDS = 4;

  private static final int FORM_MEET = 0;
  private static final int FORM_LATE = 1;
  private static final int FORM_WAIT = 2;
  private static final int FORM_RUN = 3;
  private static final int FORM_ANNUL = 4;

  private static final int IN_SECTION = 100;
  private static final int NOT_YET = 200;
  private static final int OFF = 300;

  private static final int NEVER = -1;
  private static final int NOBODY = -1;
  private static final int NOWHERE = -1;

  private final Mending mending = new Mending();
  private final Day day = mending.day;
  private final Line line = day.line;
  private final History history = new History();
  private final Sheet[] sheets = new Sheet[MOST_SHEETS];
  private int findings = 0;

  /** Promise 1. */
  public SidingLine() {
    for (int s = 0; s < MOST_SHEETS; s++) {
      sheets[s] = new Sheet();
    }
  }

  // ---- the line

  /** Promise 2. */
  public int stations(int n) {
    if (!isWithin(n, LEAST_STATIONS, MOST_STATIONS)) {
      return finding(BEYOND);
    }
    if (line.needsMoreThan(n)) {
      return finding(TAKEN);
    }
    keepForUndo();
    int was = line.track.count;
    line.track.count = n;
    return was;
  }

  /** Promise 3. */
  public int siding(int station, int v) {
    if (!line.track.hasStation(station) || !isWithin(v, 0, LONGEST)) {
      return finding(BEYOND);
    }
    keepForUndo();
    int was = line.track.sidings[station];
    line.track.sidings[station] = v;
    return was;
  }

  /** Promise 4. */
  public int section(int i, int v) {
    if (!line.track.hasSection(i) || !Track.areMinutes(v)) {
      return finding(BEYOND);
    }
    keepForUndo();
    int was = line.track.minutes[i];
    line.track.minutes[i] = v;
    return was;
  }

  /** Promise 5. */
  public int train(int kind, int from, int to, int length, int time) {
    if (!isWithin(kind, 0, KINDS - 1) || !line.track.hasStation(from) || !line.track.hasStation(to)
        || !isWithin(length, 1, LONGEST) || !isWithin(time, 0, LATEST_TIME)) {
      return finding(BEYOND);
    }
    if (from == to) {
      return finding(SIZE);
    }
    if (line.trains.count >= MOST_TRAINS) {
      return finding(FULL);
    }
    keepForUndo();
    return line.trains.add(kind, from, to, length, time);
  }

  /** Promise 6. */
  public int as(int train, int kind) {
    if (!line.trains.has(train) || !isWithin(kind, 0, KINDS - 1)) {
      return finding(BEYOND);
    }
    return line.trains.isOfKind(train, kind) ? train : finding(KIND);
  }

  /** Promise 7. */
  public int of(int train, int what) {
    if (!line.trains.has(train) || !isWithin(what, 0, 5)) {
      return finding(BEYOND);
    }
    return line.trains.tell(train, what);
  }

  /** Promise 8. */
  public int time(int train, int v) {
    if (!line.trains.has(train) || !isWithin(v, 0, LATEST_TIME)) {
      return finding(BEYOND);
    }
    keepForUndo();
    int was = line.trains.time[train];
    line.trains.time[train] = v;
    return was;
  }

  /** Promise 9. */
  public int due(int train, int station) {
    if (!line.trains.has(train) || !line.track.hasStation(station)) {
      return finding(BEYOND);
    }
    if (!line.trains.passes(train, station)) {
      return finding(NONE);
    }
    return line.dueAt(train, station);
  }

  /** Promise 10. */
  public int over(int train, int other) {
    if (!line.trains.has(train) || !line.trains.has(other)) {
      return finding(BEYOND);
    }
    if (!line.trains.areContrary(train, other)) {
      return finding(SIZE);
    }
    Trains trains = line.trains;
    int one = trains.strength(train, trains.wayOf(train));
    return one > trains.strength(other, trains.wayOf(other)) ? 1 : 0;
  }

  // ---- orders

  /** Promise 11. */
  public int meet(int a, int b, int station) {
    int refused = refusalOfMeet(a, b, station);
    if (refused != 0) {
      return finding(refused);
    }
    return write(FORM_MEET, a, b, station, 0);
  }

  /** Promise 12. */
  public int late(int a, int v) {
    if (!line.trains.has(a) || !isWithin(v, 1, LATEST_LATE)) {
      return finding(BEYOND);
    }
    return write(FORM_LATE, a, NOBODY, NOWHERE, v);
  }

  /** Promise 13. */
  public int wait(int a, int station, int v) {
    if (!line.trains.has(a) || !line.track.hasStation(station) || !isWithin(v, 0, LATEST_ORDER)) {
      return finding(BEYOND);
    }
    return write(FORM_WAIT, a, NOBODY, station, v);
  }

  /** Promise 14. */
  public int run(int a, int v) {
    if (!line.trains.has(a) || !isWithin(v, 0, LATEST_ORDER)) {
      return finding(BEYOND);
    }
    return write(FORM_RUN, a, NOBODY, NOWHERE, v);
  }

  /** Promise 15. */
  public int annul(int order) {
    if (!line.orders.has(order)) {
      return finding(BEYOND);
    }
    return write(FORM_ANNUL, order, NOBODY, NOWHERE, 0);
  }

  /** Promise 16. */
  public int hand(int order, int train, int minute) {
    if (!line.orders.has(order) || !line.trains.has(train) || !isWithin(minute, 0, LATEST_ORDER)) {
      return finding(BEYOND);
    }
    keepForUndo();
    return line.orders.giveTo(order, train, minute);
  }

  /** Promise 17. */
  public int holds(int train, int order, int minute) {
    if (!line.trains.has(train) || !line.orders.has(order) || !isWithin(minute, 0, LAST_MINUTE)) {
      return finding(BEYOND);
    }
    return line.orders.heldBy(train, minute) >> order & 1;
  }

  /** Promise 18. */
  public int order(int order, int what) {
    if (!line.orders.has(order) || !isWithin(what, 0, 5)) {
      return finding(BEYOND);
    }
    return line.orders.tell(order, what);
  }

  /** Promise 19. */
  public int force(int train, int minute) {
    if (!line.trains.has(train) || !isWithin(minute, 0, LAST_MINUTE)) {
      return finding(BEYOND);
    }
    if (line.forcedCount >= MOST_FORCED) {
      return finding(FULL);
    }
    keepForUndo();
    return line.addForced(train, minute);
  }

  // ---- the day

  /** Promise 20. */
  public int where(int train, int minute) {
    if (!line.trains.has(train) || !isWithin(minute, 0, LAST_MINUTE)) {
      return finding(BEYOND);
    }
    return day.played().placeBehind(train, minute);
  }

  /** Promise 21. */
  public int came(int train, int station) {
    if (!line.trains.has(train) || !line.track.hasStation(station)) {
      return finding(BEYOND);
    }
    int minute = day.played().came[train * MOST_STATIONS + station];
    return minute == NEVER ? finding(NONE) : minute;
  }

  /** Promise 22. */
  public int left(int train, int station) {
    if (!line.trains.has(train) || !line.track.hasStation(station)) {
      return finding(BEYOND);
    }
    int minute = day.played().left[train * MOST_STATIONS + station];
    return minute == NEVER ? finding(NONE) : minute;
  }

  /** Promise 23. */
  public int why(int train, int minute) {
    if (!line.trains.has(train) || !isWithin(minute, 0, LAST_MINUTE)) {
      return finding(BEYOND);
    }
    int reason = day.played().reasonIn(train, minute);
    return reason == NOWHERE ? finding(NONE) : reason;
  }

  /** Promise 24. */
  public int heads() {
    return day.played().heads;
  }

  /** Promise 25. */
  public int head(int what) {
    DayBook book = day.played();
    if (book.heads == 0) {
      return finding(NONE);
    }
    if (!isWithin(what, 0, 3)) {
      return finding(BEYOND);
    }
    return book.tellHead(what);
  }

  /** Promise 26. */
  public int cause() {
    DayBook book = day.played();
    if (book.heads == 0) {
      return finding(NONE);
    }
    // Two are in one section for the first time when the later one leaves for it: that is the minute of the head on.
    int order = line.orders.firstHeldByOneOf(book.headLesser, book.headGreater, book.headMinute);
    return order == MOST_ORDERS ? finding(NONE) : order;
  }

  /** Promise 27. */
  public int fouls() {
    return day.played().fouls;
  }

  /** Promise 28. */
  public int delay() {
    return day.played().delay;
  }

  // ---- mending

  /** Promise 29. */
  public int best(int what) {
    if (mending.countMeets() == 0) {
      return finding(NONE);
    }
    if (!isWithin(what, 0, 3)) {
      return finding(BEYOND);
    }
    int best = mending.findBest();
    switch (what) {
      case 0:
        return Mending.lesserOf(best);
      case 1:
        return Mending.greaterOf(best);
      case 2:
        return Mending.stationOf(best);
      default:
        return mending.priceAt(best);
    }
  }

  /** Promise 30. */
  public int price(int a, int b, int station) {
    int refused = refusalOfMeet(a, b, station);
    if (refused != 0) {
      return finding(refused);
    }
    return mending.priceAt(Mending.placeOf(a, b, station));
  }

  /** Promise 31. */
  public int proves(int a, int b, int station, int sheet) {
    int refused = isSheet(sheet) ? refusalOfMeet(a, b, station) : BEYOND;
    if (refused != 0) {
      return finding(refused);
    }
    if (sheets[sheet].isMissing()) {
      return finding(MISSING);
    }
    if (mending.findBest() != Mending.placeOf(a, b, station)) {
      return finding(KIND);
    }
    int due = mending.countMeets();
    return sheets[sheet].count == due ? mending.firstWrong(sheets[sheet]) : due;
  }

  // ---- sheets, the whole

  /** Promise 32. */
  public int sheet(int s, int bits, int n) {
    if (!isSheet(s) || !Sheet.areBits(bits)) {
      return finding(BEYOND);
    }
    if (n < 0) {
      return finding(SIZE);
    }
    if (n > MOST_NUMBERS) {
      return finding(BEYOND);
    }
    sheets[s].clear(bits, n);
    return sheets[s].count;
  }

  /** Promise 33. */
  public int put(int s, int i, int v) {
    if (!isSheet(s)) {
      return finding(BEYOND);
    }
    if (sheets[s].isMissing()) {
      return finding(MISSING);
    }
    if (!isWithin(i, 0, sheets[s].count - 1)) {
      return finding(BEYOND);
    }
    sheets[s].numbers[i] = v & sheets[s].mask();
    return 0;
  }

  /** Promise 34. */
  public int copy(int s, int from, int t, int to, int n) {
    if (!isSheet(s) || !isSheet(t)) {
      return finding(BEYOND);
    }
    if (sheets[s].isMissing() || sheets[t].isMissing()) {
      return finding(MISSING);
    }
    if (sheets[s].bits != sheets[t].bits) {
      return finding(KIND);
    }
    if (!sheets[s].hasSpan(from, n) || !sheets[t].hasSpan(to, n)) {
      return finding(BEYOND);
    }
    System.arraycopy(sheets[s].numbers, from, sheets[t].numbers, to, n);
    return n;
  }

  /** Promise 35. */
  public int grades(int s) {
    if (!isSheet(s)) {
      return finding(BEYOND);
    }
    Sheet sheet = sheets[s];
    if (sheet.isMissing()) {
      return finding(MISSING);
    }
    int used = Math.min(sheet.count, line.track.count - 1);
    for (int i = 0; i < used; i++) {
      if (!Track.areMinutes(sheet.numbers[i])) {
        return finding(BEYOND);
      }
    }
    keepForUndo();
    System.arraycopy(sheet.numbers, 0, line.track.minutes, 0, used);
    return used;
  }

  /** Promise 36. */
  public int undo() {
    if (history.count == 0) {
      return finding(NONE);
    }
    history.giveBack(line);
    forgetTheDay();
    return history.count;
  }

  /** Promise 37. */
  public int all(int what) {
    switch (what) {
      case 0:
        return line.track.count;
      case 1:
        return line.trains.count;
      case 2:
        return line.orders.count;
      case 3:
        return line.forcedCount;
      case 4:
        return findings;
      default:
        return finding(BEYOND);
    }
  }

  private int finding(int code) {
    findings++;
    return code;
  }

  private static boolean isWithin(int v, int least, int greatest) {
    return v >= least && v <= greatest;
  }

  private static boolean isSheet(int s) {
    return isWithin(s, 0, MOST_SHEETS - 1);
  }

  /** What an order for a meet would be refused with, but for FULL; 0: it can be. */
  private int refusalOfMeet(int a, int b, int station) {
    if (!line.trains.has(a) || !line.trains.has(b) || !line.track.hasStation(station)) {
      return BEYOND;
    }
    return line.trains.areContrary(a, b) ? 0 : SIZE;
  }

  private int write(int form, int first, int second, int station, int value) {
    if (line.orders.count >= MOST_ORDERS) {
      return finding(FULL);
    }
    keepForUndo();
    return line.orders.add(form, first, second, station, value);
  }

  /** Every act that changes the line calls this behind its findings and ahead of its change. */
  private void keepForUndo() {
    history.keep(line);
    forgetTheDay();
  }

  private void forgetTheDay() {
    day.forget();
    mending.forget();
  }

  /** Stations with their sidings, and the sections between them. */
  static final class Track {
    int count = 3;
    final int[] sidings = new int[MOST_STATIONS];
    final int[] minutes = new int[MOST_STATIONS - 1];

    Track() {
      Arrays.fill(sidings, 10);
      Arrays.fill(minutes, 10);
    }

    static boolean areMinutes(int v) {
      return v >= 1 && v <= 30;
    }

    boolean hasStation(int station) {
      return station >= 0 && station < count;
    }

    boolean hasSection(int i) {
      return i >= 0 && i < count - 1;
    }

    int minutesBetween(int a, int b) {
      int end = a < b ? b : a;
      int sum = 0;
      for (int i = a < b ? a : b; i < end; i++) {
        sum += minutes[i];
      }
      return sum;
    }

    void takeFrom(Track other) {
      count = other.count;
      System.arraycopy(other.sidings, 0, sidings, 0, sidings.length);
      System.arraycopy(other.minutes, 0, minutes, 0, minutes.length);
    }
  }

  /** The trains as they were told, a row a property. */
  static final class Trains {
    private static final int[] RANK_OF_KIND = {0, 1, 2, 0};
    private static final int[] KIND_ABOVE = {NOBODY, EXTRA, REGULAR, EXTRA};

    int count = 0;
    final int[] kind = new int[MOST_TRAINS];
    final int[] from = new int[MOST_TRAINS];
    final int[] to = new int[MOST_TRAINS];
    final int[] length = new int[MOST_TRAINS];
    final int[] time = new int[MOST_TRAINS];

    boolean has(int train) {
      return train >= 0 && train < count;
    }

    int add(int itsKind, int itsFrom, int itsTo, int itsLength, int itsTime) {
      int train = count;
      kind[train] = itsKind;
      from[train] = itsFrom;
      to[train] = itsTo;
      length[train] = itsLength;
      time[train] = itsTime;
      count++;
      return train;
    }

    int wayOf(int train) {
      return to[train] > from[train] ? 0 : 1;
    }

    boolean areContrary(int a, int b) {
      return wayOf(a) != wayOf(b);
    }

    boolean passes(int train, int station) {
      return station >= Math.min(from[train], to[train]) && station <= Math.max(from[train], to[train]);
    }

    boolean isOfKind(int train, int wanted) {
      int own = kind[train];
      for (int step = 0; step < KINDS && own != NOBODY; step++) {
        if (own == wanted) {
          return true;
        }
        own = KIND_ABOVE[own];
      }
      return false;
    }

    boolean isTimetabled(int train) {
      return kind[train] == REGULAR || kind[train] == MAIL;
    }

    /** Of two trains of contrary ways the one with more strength is superior; they never have the same. */
    int strength(int train, int way) {
      return 2 * RANK_OF_KIND[kind[train]] + (way == 0 ? 1 : 0);
    }

    /** Sections over which a train goes, as bits. */
    int route(int train) {
      int low = Math.min(from[train], to[train]);
      int high = Math.max(from[train], to[train]);
      return (1 << high) - (1 << low);
    }

    int tell(int train, int what) {
      switch (what) {
        case 0:
          return kind[train];
        case 1:
          return from[train];
        case 2:
          return to[train];
        case 3:
          return length[train];
        case 4:
          return time[train];
        default:
          return wayOf(train);
      }
    }

    boolean useStationFrom(int n) {
      for (int t = 0; t < count; t++) {
        if (from[t] >= n || to[t] >= n) {
          return true;
        }
      }
      return false;
    }

    void takeFrom(Trains other) {
      count = other.count;
      System.arraycopy(other.kind, 0, kind, 0, kind.length);
      System.arraycopy(other.from, 0, from, 0, from.length);
      System.arraycopy(other.to, 0, to, 0, to.length);
      System.arraycopy(other.length, 0, length, 0, length.length);
      System.arraycopy(other.time, 0, time, 0, time.length);
    }
  }

  /** The orders as they were written, and to whom each was handed when. */
  static final class Orders {
    int count = 0;
    final int[] form = new int[MOST_ORDERS];
    final int[] first = new int[MOST_ORDERS];
    final int[] second = new int[MOST_ORDERS];
    final int[] station = new int[MOST_ORDERS];
    final int[] value = new int[MOST_ORDERS];
    final int[] handed = new int[MOST_ORDERS * MOST_TRAINS];

    boolean has(int order) {
      return order >= 0 && order < count;
    }

    int add(int itsForm, int itsFirst, int itsSecond, int itsStation, int itsValue) {
      int order = count;
      form[order] = itsForm;
      first[order] = itsFirst;
      second[order] = itsSecond;
      station[order] = itsStation;
      value[order] = itsValue;
      for (int t = 0; t < MOST_TRAINS; t++) {
        handed[order * MOST_TRAINS + t] = NEVER;
      }
      count++;
      return order;
    }

    int giveTo(int order, int train, int minute) {
      int place = order * MOST_TRAINS + train;
      int was = handed[place];
      if (was == NEVER || minute < was) {
        handed[place] = minute;
      }
      return was;
    }

    /** Orders that a train holds in a minute, as bits; latest first, as an annul is later than what it annuls. */
    int heldBy(int train, int minute) {
      int held = 0;
      int annulled = 0;
      for (int k = count - 1; k >= 0; k--) {
        int since = handed[k * MOST_TRAINS + train];
        if (since == NEVER || since > minute || (annulled >> k & 1) != 0) {
          continue;
        }
        held |= 1 << k;
        if (form[k] == FORM_ANNUL) {
          annulled |= 1 << first[k];
        }
      }
      return held;
    }

    /** The first minute behind one in which a train is handed something; none: one behind the day. */
    int nextHanding(int train, int minute) {
      int next = MINUTES;
      for (int k = 0; k < count; k++) {
        int since = handed[k * MOST_TRAINS + train];
        if (since > minute && since < next) {
          next = since;
        }
      }
      return next;
    }

    /** The least order about two trains that just one of them holds in a minute; MOST_ORDERS: none. */
    int firstHeldByOneOf(int a, int b, int minute) {
      int heldByOne = heldBy(a, minute) ^ heldBy(b, minute);
      for (int k = 0; k < count; k++) {
        if ((heldByOne >> k & 1) != 0 && isAbout(k, a, b)) {
          return k;
        }
      }
      return MOST_ORDERS;
    }

    private boolean isAbout(int order, int a, int b) {
      if (form[order] == FORM_ANNUL) {
        return false;
      }
      boolean firstIsOne = first[order] == a || first[order] == b;
      if (form[order] != FORM_MEET) {
        return firstIsOne;
      }
      return firstIsOne && (second[order] == a || second[order] == b);
    }

    int tell(int order, int what) {
      switch (what) {
        case 0:
          return form[order];
        case 1:
          return first[order];
        case 2:
          return second[order];
        case 3:
          return station[order];
        case 4:
          return value[order];
        default:
          return handedTo(order);
      }
    }

    private int handedTo(int order) {
      int bits = 0;
      for (int t = 0; t < MOST_TRAINS; t++) {
        if (handed[order * MOST_TRAINS + t] != NEVER) {
          bits |= 1 << t;
        }
      }
      return bits;
    }

    boolean useStationFrom(int n) {
      for (int k = 0; k < count; k++) {
        if (station[k] >= n) {
          return true;
        }
      }
      return false;
    }

    void takeFrom(Orders other) {
      count = other.count;
      System.arraycopy(other.form, 0, form, 0, form.length);
      System.arraycopy(other.first, 0, first, 0, first.length);
      System.arraycopy(other.second, 0, second, 0, second.length);
      System.arraycopy(other.station, 0, station, 0, station.length);
      System.arraycopy(other.value, 0, value, 0, value.length);
      System.arraycopy(other.handed, 0, handed, 0, handed.length);
    }
  }

  /** All that undo brings back. */
  static final class Line {
    final Track track = new Track();
    final Trains trains = new Trains();
    final Orders orders = new Orders();
    int forcedCount = 0;
    final int[] forcedTrain = new int[MOST_FORCED];
    final int[] forcedMinute = new int[MOST_FORCED];

    boolean needsMoreThan(int stations) {
      return trains.useStationFrom(stations) || orders.useStationFrom(stations);
    }

    int dueAt(int train, int station) {
      return trains.time[train] + track.minutesBetween(trains.from[train], station);
    }

    int addForced(int train, int minute) {
      forcedTrain[forcedCount] = train;
      forcedMinute[forcedCount] = minute;
      forcedCount++;
      return forcedCount;
    }

    boolean isForced(int train, int minute) {
      for (int i = 0; i < forcedCount; i++) {
        if (forcedTrain[i] == train && forcedMinute[i] == minute) {
          return true;
        }
      }
      return false;
    }

    void takeFrom(Line other) {
      track.takeFrom(other.track);
      trains.takeFrom(other.trains);
      orders.takeFrom(other.orders);
      forcedCount = other.forcedCount;
      System.arraycopy(other.forcedTrain, 0, forcedTrain, 0, forcedTrain.length);
      System.arraycopy(other.forcedMinute, 0, forcedMinute, 0, forcedMinute.length);
    }
  }

  /** The line as it was ahead of the latest acts: a ring, made once. */
  static final class History {
    private final Line[] kept = new Line[MOST_UNDONE];
    private int next = 0;
    int count = 0;

    History() {
      for (int i = 0; i < MOST_UNDONE; i++) {
        kept[i] = new Line();
      }
    }

    void keep(Line line) {
      kept[next].takeFrom(line);
      next = (next + 1) % MOST_UNDONE;
      count = count < MOST_UNDONE ? count + 1 : MOST_UNDONE;
    }

    void giveBack(Line line) {
      if (count == 0) {
        return;
      }
      next = (next + MOST_UNDONE - 1) % MOST_UNDONE;
      count--;
      line.takeFrom(kept[next]);
    }
  }

  /** What the papers that one train holds tell it, until the next one is handed to it. */
  static final class Papers {
    private final int owner;
    private int extraOther = NOBODY;
    private int extraStation = NOWHERE;
    private int until = 0;
    int runFrom = MINUTES;
    final int[] lates = new int[MOST_TRAINS];
    final int[] waits = new int[MOST_STATIONS];
    final int[] meets = new int[MOST_STATIONS];

    Papers(int owner) {
      this.owner = owner;
    }

    /** At the start of a day: with one meet more, handed in minute 0 (other NOBODY: without). */
    void begin(int other, int station) {
      extraOther = other;
      extraStation = station;
      until = 0;
    }

    void bringUpTo(int minute, Orders orders) {
      if (minute < until) {
        return;
      }
      until = orders.nextHanding(owner, minute);
      runFrom = MINUTES;
      Arrays.fill(lates, 0);
      Arrays.fill(waits, 0);
      Arrays.fill(meets, 0);
      int held = orders.heldBy(owner, minute);
      for (int k = 0; k < orders.count; k++) {
        if ((held >> k & 1) != 0) {
          take(orders, k);
        }
      }
      if (extraOther != NOBODY) {
        meets[extraStation] |= 1 << extraOther;
      }
    }

    private void take(Orders orders, int k) {
      int about = orders.first[k];
      int value = orders.value[k];
      int station = orders.station[k];
      boolean isOwn = about == owner;
      switch (orders.form[k]) {
        case FORM_MEET:
          if (isOwn) {
            meets[station] |= 1 << orders.second[k];
          } else if (orders.second[k] == owner) {
            meets[station] |= 1 << about;
          }
          break;
        case FORM_LATE:
          lates[about] += value;
          break;
        case FORM_WAIT:
          waits[station] = isOwn && value > waits[station] ? value : waits[station];
          break;
        case FORM_RUN:
          runFrom = isOwn && value < runFrom ? value : runFrom;
          break;
        default:
          break;
      }
    }

    /** Trains that are to be met at any station beyond one in a way, as bits. */
    int metBeyond(int station, int way) {
      int bits = 0;
      for (int s = 0; s < MOST_STATIONS; s++) {
        if (way == 0 ? s > station : s < station) {
          bits |= meets[s];
        }
      }
      return bits;
    }
  }

  /** What is written down of a day that was played. */
  static final class DayBook {
    private int played = 0;
    private final short[] places = new short[MOST_TRAINS * MINUTES];
    private final byte[] reasons = new byte[MOST_TRAINS * MINUTES];
    final int[] came = new int[MOST_TRAINS * MOST_STATIONS];
    final int[] left = new int[MOST_TRAINS * MOST_STATIONS];
    private int pairs = 0;
    int heads = 0;
    int headMinute = NEVER;
    private int headSection = NOWHERE;
    int headLesser = NOBODY;
    int headGreater = NOBODY;
    int fouls = 0;
    int delay = 0;

    void begin() {
      played = 0;
      Arrays.fill(came, NEVER);
      Arrays.fill(left, NEVER);
      pairs = 0;
      heads = 0;
      fouls = 0;
      delay = 0;
    }

    void noteCame(int train, int station, int minute) {
      int place = train * MOST_STATIONS + station;
      if (came[place] == NEVER) {
        came[place] = minute;
      }
    }

    void noteLeft(int train, int station, int minute) {
      int place = train * MOST_STATIONS + station;
      if (left[place] == NEVER) {
        left[place] = minute;
      }
    }

    void noteReason(int train, int minute, int reason) {
      reasons[train * MINUTES + minute] = (byte) reason;
    }

    void notePlace(int train, int minute, int place) {
      places[train * MINUTES + minute] = (short) place;
      played = minute + 1;
    }

    /** Told in the order of minutes and pairs, so the first one that is told is the first one. */
    void noteHead(int minute, int section, int lesser, int greater) {
      int bit = 1 << lesser * MOST_TRAINS + greater;
      if ((pairs & bit) != 0) {
        return;
      }
      pairs |= bit;
      if (heads == 0) {
        headMinute = minute;
        headSection = section;
        headLesser = lesser;
        headGreater = greater;
      }
      heads++;
    }

    /** A day ends when all are off the line: the minutes behind that are not written down. */
    int placeBehind(int train, int minute) {
      return minute < played ? places[train * MINUTES + minute] : OFF;
    }

    int reasonIn(int train, int minute) {
      return minute < played ? reasons[train * MINUTES + minute] : NOWHERE;
    }

    int tellHead(int what) {
      switch (what) {
        case 0:
          return headMinute;
        case 1:
          return headSection;
        case 2:
          return headLesser;
        default:
          return headGreater;
      }
    }
  }

  /** The line, and its day as it is played, as ordered or with one meet more. */
  static final class Day {
    private static final int LONG_AGO = -1000;
    private static final int APART = 10;
    private static final int CLEARANCE = 5;
    private static final int NOT_OFF = 1000;

    final Line line = new Line();
    final DayBook book = new DayBook();
    private boolean isAsOrdered = false;
    private final Papers[] papers = new Papers[MOST_TRAINS];
    private final int[] due = new int[MOST_TRAINS * MOST_STATIONS];
    private final int[] route = new int[MOST_TRAINS];
    private final int[] place = new int[MOST_TRAINS];
    private final int[] way = new int[MOST_TRAINS];
    private final int[] strength = new int[MOST_TRAINS];
    private final int[] goal = new int[MOST_TRAINS];
    private final int[] since = new int[MOST_TRAINS];
    /** Trains that were at a station, as bits; a row of stations for each way. */
    private final int[] seen = new int[2 * MOST_STATIONS];
    private final int[] lastLeaving = new int[2 * MOST_STATIONS];
    private int timetabled = 0;
    private int gone = 0;

    Day() {
      for (int t = 0; t < MOST_TRAINS; t++) {
        papers[t] = new Papers(t);
      }
    }

    void forget() {
      isAsOrdered = false;
    }

    DayBook played() {
      if (!isAsOrdered) {
        play(NOBODY, NOBODY, NOWHERE);
        isAsOrdered = true;
      }
      return book;
    }

    /** With one meet more of a and b (NOBODY: without). */
    void play(int a, int b, int station) {
      isAsOrdered = false;
      begin(a, b, station);
      int everyone = (1 << line.trains.count) - 1;
      for (int minute = 0; minute <= LAST_MINUTE && gone != everyone; minute++) {
        letComeIn(minute);
        letAppear(minute);
        if (letLeave(minute)) {
          noteHeads(minute);
        }
        for (int t = 0; t < line.trains.count; t++) {
          book.notePlace(t, minute, place[t]);
        }
      }
    }

    private void begin(int a, int b, int station) {
      book.begin();
      Arrays.fill(seen, 0);
      Arrays.fill(lastLeaving, LONG_AGO);
      timetabled = 0;
      gone = 0;
      for (int t = 0; t < line.trains.count; t++) {
        beginTrain(t);
        papers[t].begin(t == a ? b : t == b ? a : NOBODY, station);
        book.delay += NOT_OFF;
      }
    }

    private void beginTrain(int t) {
      Trains trains = line.trains;
      place[t] = NOT_YET;
      way[t] = trains.wayOf(t);
      strength[t] = trains.strength(t, way[t]);
      goal[t] = trains.to[t];
      route[t] = trains.route(t);
      since[t] = NEVER;
      timetabled |= trains.isTimetabled(t) ? 1 << t : 0;
      for (int s = 0; s < line.track.count; s++) {
        due[t * MOST_STATIONS + s] = trains.time[t] + line.track.minutesBetween(trains.from[t], s);
      }
    }

    private boolean isAtStation(int t) {
      return place[t] < IN_SECTION;
    }

    private boolean isInSection(int t) {
      return place[t] >= IN_SECTION && place[t] < NOT_YET;
    }

    private void letComeIn(int minute) {
      for (int t = 0; t < line.trains.count; t++) {
        if (isInSection(t) && minute - since[t] >= line.track.minutes[place[t] - IN_SECTION]) {
          comeIn(t, place[t] - IN_SECTION + (way[t] == 0 ? 1 : 0), minute);
        }
      }
    }

    private void comeIn(int t, int station, int minute) {
      book.noteCame(t, station, minute);
      if (station == goal[t]) {
        if (line.trains.kind[t] != WORK || station != line.trains.to[t]) {
          goOff(t, minute);
          return;
        }
        turnBack(t);
      }
      if (isFoul(t, station)) {
        book.fouls++;
      }
      stand(t, station);
    }

    private void goOff(int t, int minute) {
      place[t] = OFF;
      gone |= 1 << t;
      int onTime = due[t * MOST_STATIONS + line.trains.to[t]];
      if (line.trains.kind[t] == WORK) {
        onTime += onTime - line.trains.time[t];
      }
      book.delay += minute - onTime - NOT_OFF;
    }

    private void turnBack(int t) {
      way[t] = 1 - way[t];
      strength[t] = line.trains.strength(t, way[t]);
      goal[t] = line.trains.from[t];
    }

    private void stand(int t, int station) {
      place[t] = station;
      seen[way[t] * MOST_STATIONS + station] |= 1 << t;
    }

    private boolean isFoul(int t, int station) {
      int siding = line.track.sidings[station];
      int others = 0;
      boolean isAnyShort = line.trains.length[t] <= siding;
      for (int o = 0; o < line.trains.count; o++) {
        if (o != t && place[o] == station) {
          others++;
          isAnyShort = isAnyShort || line.trains.length[o] <= siding;
        }
      }
      return others >= 2 || others == 1 && !isAnyShort;
    }

    private void letAppear(int minute) {
      for (int t = 0; t < line.trains.count; t++) {
        if (place[t] == NOT_YET && line.trains.time[t] == minute) {
          book.noteCame(t, line.trains.from[t], minute);
          stand(t, line.trains.from[t]);
        }
      }
    }

    /** Whether any left. */
    private boolean letLeave(int minute) {
      boolean someLeft = false;
      for (int t = 0; t < line.trains.count; t++) {
        int reason = NOWHERE;
        if (isAtStation(t)) {
          papers[t].bringUpTo(minute, line.orders);
          reason = line.isForced(t, minute) ? 0 : whyNot(t, minute);
        }
        book.noteReason(t, minute, reason);
        if (reason == 0) {
          leave(t, minute);
          someLeft = true;
        }
      }
      return someLeft;
    }

    private void leave(int t, int minute) {
      int station = place[t];
      book.noteLeft(t, station, minute);
      lastLeaving[way[t] * MOST_STATIONS + station] = minute;
      since[t] = minute;
      place[t] = IN_SECTION + sectionAhead(t);
    }

    private int sectionAhead(int t) {
      return way[t] == 0 ? place[t] : place[t] - 1;
    }

    /** The least rule that stands against a train's leaving; 0: none does. */
    private int whyNot(int t, int minute) {
      Papers held = papers[t];
      int station = place[t];
      boolean goesByTable = (timetabled >> t & 1) != 0;
      int earliest = goesByTable ? due[t * MOST_STATIONS + station] + held.lates[t] : held.runFrom;
      if (minute < earliest) {
        return 1;
      }
      if (minute < held.waits[station]) {
        return 2;
      }
      int met = seen[station] | seen[MOST_STATIONS + station] | gone;
      if ((held.meets[station] & ~met) != 0) {
        return 3;
      }
      if (isBarred(t, minute, held)) {
        return 4;
      }
      return minute - lastLeaving[way[t] * MOST_STATIONS + station] < APART ? 5 : 0;
    }

    /** Whether a superior train is to be looked for on the section ahead. */
    private boolean isBarred(int t, int minute, Papers held) {
      int station = place[t];
      int section = sectionAhead(t);
      int next = way[t] == 0 ? station + 1 : station - 1;
      int clearAt = minute + line.track.minutes[section] + CLEARANCE;
      int contrary = 1 - way[t];
      int harmless = gone | seen[contrary * MOST_STATIONS + station] | held.metBeyond(station, way[t]);
      for (int o = 0; o < line.trains.count; o++) {
        if (way[o] != contrary || strength[o] < strength[t] || (route[o] >> section & 1) == 0) {
          continue;
        }
        boolean goesByTable = (timetabled >> o & 1) != 0;
        boolean isFarOff = goesByTable && clearAt <= due[o * MOST_STATIONS + next] + held.lates[o];
        if ((harmless >> o & 1) == 0 && !isFarOff) {
          return true;
        }
      }
      return false;
    }

    private void noteHeads(int minute) {
      for (int a = 0; a < line.trains.count; a++) {
        for (int b = a + 1; b < line.trains.count; b++) {
          if (isInSection(a) && place[a] == place[b] && way[a] != way[b]) {
            book.noteHead(minute, place[a] - IN_SECTION, a, b);
          }
        }
      }
    }
  }

  /** Prices of all meets that can be ordered, each found when it is first asked for and kept until the line changes. */
  static final class Mending {
    private static final int UNKNOWN = -1;
    private static final int OF_A_HEAD = 100000;
    private static final int PLACES = MOST_TRAINS * MOST_TRAINS * MOST_STATIONS;

    final Day day = new Day();
    private final Line line = day.line;
    private final int[] prices = new int[PLACES];
    private boolean isFresh = false;

    void forget() {
      isFresh = false;
    }

    /** Meets stand in these places in the order in which they are told; either train may be named first. */
    static int placeOf(int a, int b, int station) {
      return (Math.min(a, b) * MOST_TRAINS + Math.max(a, b)) * MOST_STATIONS + station;
    }

    static int lesserOf(int place) {
      return place / MOST_STATIONS / MOST_TRAINS;
    }

    static int greaterOf(int place) {
      return place / MOST_STATIONS % MOST_TRAINS;
    }

    static int stationOf(int place) {
      return place % MOST_STATIONS;
    }

    int priceAt(int place) {
      if (place < 0 || place >= PLACES) {
        return 0;
      }
      if (!isFresh) {
        Arrays.fill(prices, UNKNOWN);
        isFresh = true;
      }
      if (prices[place] == UNKNOWN) {
        day.play(lesserOf(place), greaterOf(place), stationOf(place));
        prices[place] = OF_A_HEAD * day.book.heads + day.book.delay;
      }
      return prices[place];
    }

    private boolean canMeet(int place) {
      int lesser = lesserOf(place);
      int greater = greaterOf(place);
      return lesser < greater && line.trains.has(greater) && line.trains.areContrary(lesser, greater)
          && line.track.hasStation(stationOf(place));
    }

    int countMeets() {
      int count = 0;
      for (int place = 0; place < PLACES; place++) {
        count += canMeet(place) ? 1 : 0;
      }
      return count;
    }

    /** The place of the best one: one head on outweighs all delays, so the least price is it; NOWHERE: none can be. */
    int findBest() {
      int best = NOWHERE;
      int least = 0;
      for (int place = 0; place < PLACES; place++) {
        if (canMeet(place) && (best == NOWHERE || priceAt(place) < least)) {
          best = place;
          least = priceAt(place);
        }
      }
      return best;
    }

    /** The first number of a sheet that is not the price that is due there; -1: all are. */
    int firstWrong(Sheet sheet) {
      int i = 0;
      for (int place = 0; place < PLACES && i < sheet.count; place++) {
        if (!canMeet(place)) {
          continue;
        }
        if (sheet.numbers[i] != (priceAt(place) & sheet.mask())) {
          return i;
        }
        i++;
      }
      return -1;
    }
  }

  /** A row of numbers of so many bits, kept without their sign. */
  static final class Sheet {
    int bits = 0;
    int count = 0;
    final int[] numbers = new int[MOST_NUMBERS];

    static boolean areBits(int bits) {
      return bits == 0 || bits == 8 || bits == 16 || bits == 32;
    }

    boolean isMissing() {
      return bits == 0;
    }

    int mask() {
      return bits == 32 ? -1 : (1 << bits) - 1;
    }

    /** With no bits it is missing, and has no numbers. */
    void clear(int itsBits, int itsCount) {
      bits = itsBits;
      count = itsBits == 0 ? 0 : itsCount;
      Arrays.fill(numbers, 0);
    }

    boolean hasSpan(int from, int n) {
      return from >= 0 && n >= 0 && n <= count && from <= count - n;
    }
  }
}
