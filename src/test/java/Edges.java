import java.nio.file.Files;
import java.nio.file.Path;
import java.util.ArrayList;
import java.util.List;
import java.util.Set;
import java.util.TreeSet;
import java.util.function.IntUnaryOperator;

/** What the tests of edges share: a sentence of the document is named, then each answer that it asks for is due. */
abstract class Edges {
  static final int BEYOND = -100001, MISSING = -100002, SIZE = -100003, KIND = -100004, FULL = -100005,
      NONE = -100006, TAKEN = -100007;
  static final int EXTRA = 0, REGULAR = 1, MAIL = 2, WORK = 3;
  static final int NOT_YET = 200, OFF = 300;
  /** The number under which the section Terms is named. */
  static final int TERMS = 0;

  private static final Set<String> sentences = new TreeSet<>();
  private static int promise = TERMS;
  private static String sentence = "";
  private static int askedOfSentence = 1;
  private static int asked = 0;
  private static int wrong = 0;

  static void promise(int number) {
    promise = number;
  }

  static void says(String itsSentence) {
    closeSentence();
    sentence = itsSentence;
    askedOfSentence = 0;
    sentences.add(promise + " " + itsSentence);
  }

  private static void closeSentence() {
    if (askedOfSentence == 0) fail("nothing was asked of it");
  }

  private static void fail(String how) {
    wrong++;
    String from = promise == TERMS ? "Terms" : "promise " + promise;
    System.out.println(from + ", \"" + sentence + "\": " + how);
  }

  static void due(String what, int got, int want) {
    asked++;
    askedOfSentence++;
    if (got != want) fail(what + " answered " + got + ", due is " + want);
  }

  static void dueNot(String what, int got, int unwanted) {
    asked++;
    askedOfSentence++;
    if (got == unwanted) fail(what + " answered " + got + ", which is not due");
  }

  /** BEYOND just outside of both ends and far outside, but not at the ends. */
  static void beyondOutside(String what, int least, int greatest, IntUnaryOperator call) {
    int[] outside = {least - 1, greatest + 1, Integer.MIN_VALUE, Integer.MAX_VALUE, least - 256, greatest + 65536};
    for (int v : outside) due(what + " " + v, call.applyAsInt(v), BEYOND);
    dueNot(what + " " + least, call.applyAsInt(least), BEYOND);
    dueNot(what + " " + greatest, call.applyAsInt(greatest), BEYOND);
  }

  static void dueRow(String what, IntUnaryOperator call, int... want) {
    for (int i = 0; i < want.length; i++) due(what + " " + i, call.applyAsInt(i), want[i]);
  }

  /** Ends the program with 1 if an answer was not as due. */
  static void end() {
    closeSentence();
    System.out.println(wrong == 0
        ? asked + " answers at the edges of " + sentences.size() + " sentences are as due"
        : wrong + " answers at the edges are not as due");
    if (wrong != 0) System.exit(1);
  }

  /** Prints the document's sentences that no test names, and named ones that are not in it. */
  static void tellUntested(Path document) throws Exception {
    Set<String> inDocument = new TreeSet<>();
    int number = -1;
    StringBuilder text = new StringBuilder();
    for (String line : Files.readAllLines(document)) {
      if (line.startsWith("## ")) {
        addSentences(number, text, inDocument);
        number = line.equals("## Terms") ? TERMS
            : line.startsWith("## Promise ") ? Integer.parseInt(line.substring(11, line.indexOf(':'))) : -1;
      } else if (!line.startsWith("```") && !line.startsWith("Ahead of the calls")) {
        text.append(line.strip()).append(' ');
      }
    }
    for (String told : minus(inDocument, sentences)) System.out.println("no test names: " + told);
    for (String told : minus(sentences, inDocument)) System.out.println("not in the document: " + told);
  }

  private static void addSentences(int number, StringBuilder text, Set<String> all) {
    String plain = text.toString().replaceAll("`int [^`]*`: |`SidingLine\\(\\)`: ", "")
        .replaceAll("\\s+", " ").strip();
    text.setLength(0);
    if (number < 0) return;
    for (String part : plain.split("(?<=[^.][.)])\\s+(?=[A-Z(0-9])")) {
      if (!part.matches("\\d\\.")) all.add(number + " " + part.strip());
    }
  }

  private static List<String> minus(Set<String> one, Set<String> other) {
    List<String> left = new ArrayList<>(one);
    left.removeAll(other);
    return left;
  }

  // ---- lines that several tests begin with

  static SidingLine lineOf(int stations) {
    SidingLine x = new SidingLine();
    x.stations(stations);
    return x;
  }

  /** Two regulars, each from an end of three stations to the other, both in minute 0. */
  static SidingLine twoRegulars() {
    SidingLine x = new SidingLine();
    x.train(REGULAR, 0, 2, 8, 0);
    x.train(REGULAR, 2, 0, 8, 0);
    return x;
  }

  /** The lesser one goes by the table, the other one is forced to go against it: head on in minute 10, section 1. */
  static SidingLine headOn() {
    SidingLine x = twoRegulars();
    x.force(1, 5);
    return x;
  }

  static void fillOrders(SidingLine x) {
    for (int i = x.all(2); i < 12; i++) x.run(0, 0);
  }

  /** An order that was just written, handed to a train. */
  static void give(SidingLine x, int order, int train, int minute) {
    x.hand(order, train, minute);
  }
}
