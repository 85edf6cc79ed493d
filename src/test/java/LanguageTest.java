import java.io.IOException;
import java.lang.reflect.Constructor;
import java.lang.reflect.Field;
import java.lang.reflect.Method;
import java.lang.reflect.Modifier;
import java.nio.file.Files;
import java.nio.file.Path;
import java.util.Arrays;
import java.util.HashSet;
import java.util.List;
import java.util.Set;
import java.util.regex.Matcher;
import java.util.regex.Pattern;

/** What of ../shared/LANGUAGE.md can be seen from the source and the class; asked from the project's folder. */
public final class LanguageTest {
  private static final Due due = new Due();
  private static final Path SOURCE = Path.of("src/main/java/GripBench.java");
  private static final List<String> FACE = List.of(
      "int shape(int,int)", "int corner(int,int)", "int middle(int)", "int isIn(int,int)", "int finger(int,int)",
      "int move(int,int,int)", "int release()", "int friction(int)", "long push(int,int)", "int holds()",
      "long witness(int)", "int free(int)", "int slip()", "int spot(int,int,int)", "int cheapest()", "int take()",
      "int lifts(int,int,int,int)", "int seal(int,int,int)", "int probe(int,int)", "int poses()", "int pose(int)",
      "int grip()", "int link(int,int,int)", "int way(int,int)", "int drop()", "int on(int,int)", "int pick(int)",
      "int reach(int)", "int stuck()", "int sheet(int,int,int)", "int lose(int)", "int put(int,int,int,int)",
      "int get(int,int,int)", "int copy(int,int,int,int,int)", "int count(int)", "long digest()");

  public static void main(String[] args) throws IOException {
    face();
    classes();
    words(withoutComments(Files.readString(SOURCE)));
    library(withoutComments(Files.readString(SOURCE)));
    rowsAreMadeOnce(withoutComments(Files.readString(SOURCE)));
    shortMethods(Files.readAllLines(SOURCE));
    due.end();
  }

  private static String told(Method m) {
    StringBuilder types = new StringBuilder();
    for (Class<?> type : m.getParameterTypes()) types.append(types.length() == 0 ? "" : ",").append(type.getName());
    return m.getReturnType().getName() + " " + m.getName() + "(" + types + ")";
  }

  private static void face() {
    due.run("the face");
    Set<String> found = new HashSet<>();
    for (Method m : GripBench.class.getDeclaredMethods()) {
      boolean isPublic = Modifier.isPublic(m.getModifiers());
      due.yes(m + " is public or private", isPublic || Modifier.isPrivate(m.getModifiers()));
      if (isPublic) found.add(told(m));
    }
    due.yes("the public methods are those of the document", found.equals(new HashSet<>(FACE)));
    Constructor<?>[] constructors = GripBench.class.getDeclaredConstructors();
    due.is("constructors", constructors.length, 1);
    due.yes("it is public", Modifier.isPublic(constructors[0].getModifiers()));
    due.is("what it takes", constructors[0].getParameterCount(), 0);
    due.yes("public and final", GripBench.class.getModifiers() == (Modifier.PUBLIC | Modifier.FINAL));
    Set<String> constants = new HashSet<>();
    for (Field f : GripBench.class.getDeclaredFields()) {
      if (!Modifier.isPrivate(f.getModifiers())) constants.add(f.getName());
    }
    due.yes("the constants", constants.equals(Set.of("NONE", "BAD", "NOT", "FULL")));
  }

  private static void classes() {
    due.run("the classes");
    Class<?>[] inside = GripBench.class.getDeclaredClasses();
    due.yes("at most twelve", inside.length + 1 <= 12);
    fields(GripBench.class);
    Set<String> faceNames = new HashSet<>();
    for (String line : FACE) faceNames.add(line.substring(line.indexOf(' ') + 1, line.indexOf('(')));
    for (Class<?> c : inside) {
      due.yes(c + " is static", Modifier.isStatic(c.getModifiers()));
      due.yes(c + " is private", Modifier.isPrivate(c.getModifiers()));
      fields(c);
      for (Method m : c.getDeclaredMethods()) due.yes(m + " has a name of its own", !faceNames.contains(m.getName()));
    }
    for (Method m : GripBench.class.getDeclaredMethods()) {
      due.yes(m + " has a name of its own", Modifier.isPublic(m.getModifiers()) || !faceNames.contains(m.getName()));
    }
  }

  private static void fields(Class<?> c) {
    int beside = 0;
    for (Field f : c.getDeclaredFields()) {
      boolean isStatic = Modifier.isStatic(f.getModifiers());
      due.yes(f + " is final, if it is static", !isStatic || Modifier.isFinal(f.getModifiers()));
      if (!isStatic) beside++;
    }
    due.yes(c + " has at most twenty fields", beside <= 20);
    for (Method m : c.getDeclaredMethods()) due.yes(m + " takes at most seven", m.getParameterCount() <= 7);
  }

  private static String withoutComments(String source) {
    return source.replaceAll("(?s)/\\*.*?\\*/", "").replaceAll("//[^\n]*", "");
  }

  private static void words(String source) {
    due.run("words that the language leaves out");
    String[] words = {
      "throw", "throws", "try", "catch", "finally", "synchronized", "assert", "import", "package", "protected",
      "volatile", "transient", "native", "var", "yield", "equals", "hashCode", "toString", "System", "Exact"
    };
    for (String word : words) due.yes(word, !Pattern.compile("\\b" + word + "\\b").matcher(source).find());
    for (String sign : new String[] {"->", "::", "static {", "\""}) due.yes(sign, !source.contains(sign));
    due.yes("no name ends in Exact", !source.contains("Exact("));
    due.yes("plain signs", source.chars().allMatch(sign -> sign < 127));
  }

  private static void library(String source) {
    due.run("the library");
    Set<String> own = new HashSet<>();
    for (Class<?> c : GripBench.class.getDeclaredClasses()) own.add(c.getSimpleName());
    Matcher named = Pattern.compile("\\b([A-Z]\\w*)\\.\\w+").matcher(source);
    while (named.find()) {
      boolean isListed = Set.of("Math.min", "Math.max", "Integer.bitCount").contains(named.group());
      due.yes(named.group(), isListed || own.contains(named.group(1)));
    }
  }

  /** Objects are made in constructors and for fields alone: so a run makes as many as it makes benches. */
  private static void rowsAreMadeOnce(String source) {
    due.run("rows are made once");
    Matcher made = Pattern.compile("(?m)^.*\\bnew\\b.*$").matcher(source);
    while (made.find()) {
      String line = made.group().strip();
      boolean isField = line.matches("private final \\w+\\[\\] \\w+ = new \\w+\\[[^\\]]*\\];");
      due.yes(line, isField || line.matches("\\w+ = new [A-Z]\\w+\\(\\);"));
    }
    int begin = source.indexOf("public GripBench() {");
    String constructor = source.substring(begin, source.indexOf("    }\n", begin));
    due.is("objects made in the constructor", Arrays.stream(constructor.split("\n"))
        .filter(line -> line.contains("= new ")).count(), source.split("= new [A-Z]\\w+\\(", -1).length - 1);
  }

  private static void shortMethods(List<String> lines) {
    due.run("short methods");
    int begin = 0;
    for (int i = 0; i < lines.size(); i++) {
      due.yes("line " + (i + 1) + " is short", lines.get(i).length() <= 120);
      if (lines.get(i).matches("(    |        )[a-z][^;=]*\\(.*\\{")) begin = i;
      if (lines.get(i).matches("(    |        )\\}")) due.yes("the one to line " + (i + 1), i - begin < 60);
    }
  }
}
