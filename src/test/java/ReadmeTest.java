import java.nio.file.Files;
import java.nio.file.Path;
import java.util.regex.Matcher;
import java.util.regex.Pattern;

/** The examples of README.md: each call there answers what stands behind it. */
public final class ReadmeTest {
  private static final Pattern NEW = Pattern.compile("SidingLine x = new SidingLine\\(\\);.*");
  private static final Pattern CALL = Pattern.compile("x\\.(\\w+)\\(([-0-9, ]*)\\);\\s*// (-?\\d+)\\b.*");

  public static void main(String[] args) throws Exception {
    int asked = 0;
    int wrong = 0;
    boolean inExample = false;
    SidingLine x = new SidingLine();
    for (String row : Files.readAllLines(Path.of("README.md"))) {
      if (row.startsWith("```")) {
        inExample = row.equals("```java");
        continue;
      }
      if (!inExample || row.isBlank() || row.startsWith("//")) continue;
      if (NEW.matcher(row).matches()) {
        x = new SidingLine();
        continue;
      }
      asked++;
      Matcher call = CALL.matcher(row);
      if (!call.matches()) {
        wrong++;
        System.out.println("no call with its answer: " + row);
        continue;
      }
      int got = Calls.ask(x, (call.group(1) + " " + call.group(2).replace(",", "")).strip());
      if (got != Integer.parseInt(call.group(3))) {
        wrong++;
        System.out.println("answered " + got + ": " + row);
      }
    }
    if (asked < 30) {
      wrong++;
      System.out.println("only " + asked + " calls were found in README.md");
    }
    System.out.println(wrong == 0 ? asked + " calls of README.md are answered as told" : wrong + " rows are wrong");
    if (wrong != 0) System.exit(1);
  }
}
