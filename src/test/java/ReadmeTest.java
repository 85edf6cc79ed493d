import java.io.IOException;
import java.lang.reflect.Method;
import java.nio.file.Files;
import java.nio.file.Path;
import java.util.ArrayList;
import java.util.List;
import java.util.regex.Matcher;
import java.util.regex.Pattern;

/** README.md against the class and the document; asked from the project's folder. */
public final class ReadmeTest {
  private static final Due due = new Due();
  private static final Path README = Path.of("README.md");
  private static final Path DOCUMENT = Path.of("../shared/DOC.md");
  private static final Path THIS = Path.of("src/test/java/ReadmeTest.java");
  private static final Pattern REFUSAL = Pattern.compile("\\b(BAD|NOT|FULL|NULL|INDEX|CAST|STORE|SIZE)\\b");

  public static void main(String[] args) throws IOException {
    use();
    refusals();
    String readme = Files.readString(README);
    codeIsThatOfThisTest(readme);
    callsAreTold(readme, Files.readString(DOCUMENT));
    due.end();
  }

  private static void use() {
    due.run("how to use it");
    // README begins
    GripBench bench = new GripBench();      // the part is the triangle 0 0, 10 0, 0 10
    bench.finger(0, 3);                     // finger 0, on edge 0, three eighths along it
    bench.finger(1, 3);
    bench.finger(2, 3);
    int slippery = bench.holds();           // 0: they do not hold yet
    bench.friction(16);
    int holds = bench.holds();              // 1: now they do
    int freely = bench.free(0);             // 511: finger 0 may stand anywhere on its edge
    // README ends
    due.is("slippery", slippery, 0);
    due.is("holds", holds, 1);
    due.is("freely", freely, 511);
    // README begins
    int[] corners = {0, 0, 10, 0, 10, 8, 0, 8};
    bench.sheet(1, 0, 8);                   // sheet 1: a row of 8 bytes
    for (int i = 0; i < 8; i++) bench.put(1, 0, i, corners[i]);
    int area = bench.shape(1, 4);           // 160: twice what it is
    int rim = bench.isIn(80, 20);           // 2: places are told in eighths, so this is 10, 2.5
    int least = bench.seal(0, 0, 3);        // 154: a cup at the corner lifts a weight of 3 with no less
    // README ends
    due.is("area", area, 160);
    due.is("rim", rim, 2);
    due.is("least", least, 154);
    due.is("fingers behind shape", bench.count(1), 0);
    // README begins
    bench.probe(1, 6);                      // probes are told in whole places, not in eighths
    bench.probe(9, 0);
    bench.sheet(0, 1, 2);                   // a row of 2 shorts, 0 at first: neither felt the part
    bench.put(0, 1, 0, 1);                  // but probe 0 did
    int fitting = bench.poses();            // 33: so many of the 81 shifts may be where the part lies
    int first = bench.pose(0);              // 2: the first of them, dx -4 (and 4 is 0) and dy -2 (and 4 is 2)
    // README ends
    due.is("fitting", fitting, 33);
    due.is("first", first, 2);
  }

  private static void refusals() {
    due.run("what a refused call answers");
    // README begins
    GripBench empty = new GripBench();
    int beyond = empty.finger(3, 0);        // -2: BAD, a triangle has edges 0, 1, 2
    int nothing = empty.take();             // -3: NOT, no spots hold
    int lost = empty.put(0, 0, 0, 1);       // -11: NULL, sheet 0 is lost
    int latest = empty.count(6);            // 1: the finding that was the latest
    int corner = empty.corner(3, 0);        // -1000
    long push = empty.push(0, 0);           // -9223372036854775806: the least long and 2
    long witness = empty.witness(0);        // -9223372036854775805: the least long and 3
    int item = empty.get(4, 0, 0);          // -2147483648: BAD, and no finding
    // README ends
    due.is("beyond", beyond, -2);
    due.is("nothing", nothing, -3);
    due.is("lost", lost, -11);
    due.is("latest", latest, 1);
    due.is("corner", corner, -1000);
    due.is("push", push, Long.MIN_VALUE + 2);
    due.is("witness", witness, Long.MIN_VALUE + 3);
    due.is("item", item, Integer.MIN_VALUE);
    due.is("the latest finding is as it was", empty.count(6), 1);
  }

  // ---- the words of README.md

  private static void codeIsThatOfThisTest(String readme) throws IOException {
    due.run("the code of README.md");
    List<String> told = pieces(readme, "```java\n(.*?)```");
    List<String> run = pieces(Files.readString(THIS), "// README begins\n(.*?)\n *// README ends\n");
    due.is("pieces of code", told.size(), run.size());
    for (int i = 0; i < told.size() && i < run.size(); i++) {
      due.yes("piece " + i + " is run as it is told", told.get(i).strip().equals(run.get(i).stripIndent().strip()));
    }
  }

  private static List<String> pieces(String text, String form) {
    List<String> found = new ArrayList<>();
    Matcher matcher = Pattern.compile(form, Pattern.DOTALL).matcher(text);
    while (matcher.find()) found.add(matcher.group(1));
    return found;
  }

  /** Each call of the document stands in the table, in its order, with what it takes and how it is refused. */
  private static void callsAreTold(String readme, String document) {
    due.run("the calls of README.md");
    List<String[]> rows = new ArrayList<>();
    for (String row : pieces(readme, "(?m)^(\\| `\\w+\\(.*?\\|)$")) rows.add(row.split("\\|"));
    Matcher promise = Pattern.compile("(?m)^`(?:int|long) (\\w+)\\((.*?)\\)`: (.*)$").matcher(document);
    int i = 0;
    for (; promise.find(); i++) {
      String call = promise.group(1) + "(" + promise.group(2).replace("int ", "") + ")";
      due.yes(call + " has a row", i < rows.size() && rows.get(i)[1].strip().equals("`" + call + "`"));
      if (i < rows.size()) {
        List<String> refused = refusalsIn(promise.group(3));
        due.yes(call + " is refused by " + refused, refusalsIn(rows.get(i)[3]).equals(refused));
        due.yes(call + " is refused, or never", refused.isEmpty() == rows.get(i)[3].strip().equals("never"));
      }
    }
    due.is("rows", rows.size(), i);
    due.is("calls of the class", i, calls());
  }

  private static List<String> refusalsIn(String text) {
    List<String> found = new ArrayList<>();
    Matcher matcher = REFUSAL.matcher(text);
    while (matcher.find()) found.add(matcher.group());
    return found;
  }

  private static int calls() {
    int calls = 0;
    for (Method method : GripBench.class.getMethods()) {
      if (method.getDeclaringClass() == GripBench.class) calls++;
    }
    return calls;
  }
}
