import java.io.ByteArrayOutputStream;
import java.io.IOException;
import java.io.PrintStream;
import java.lang.reflect.Method;
import java.lang.reflect.Modifier;
import java.net.URL;
import java.net.URLClassLoader;
import java.nio.charset.StandardCharsets;
import java.nio.file.Files;
import java.nio.file.Path;
import java.util.ArrayList;
import java.util.Comparator;
import java.util.List;
import java.util.regex.Matcher;
import java.util.regex.Pattern;
import java.util.spi.ToolProvider;
import java.util.stream.Stream;

/** What README.md shows is so: its example compiles and prints what stands behind its calls. */
public final class ReadmeTest {
  private static final Path README = Path.of("README.md");
  private static final Pattern EXAMPLE = Pattern.compile("```java\n(.*?)```", Pattern.DOTALL);
  private static final Pattern SHOWN = Pattern.compile("^ +show\\(.*\\); *// (-?\\d+): ");
  private static final int FEWEST_SHOWN = 20;

  private static int wrong = 0;

  public static void main(String[] args) throws Exception {
    String text = Files.readString(README, StandardCharsets.US_ASCII);
    Matcher example = EXAMPLE.matcher(text);
    hold(example.find(), "there is no example");
    if (wrong == 0) {
      compare(shown(example.group(1)), printed(example.group(1)));
    }
    namesEveryCall(text);
    namesEveryTest(text);
    System.out.println("ReadmeTest: " + wrong + " wrong");
    if (wrong != 0) {
      System.exit(1);
    }
  }

  private static void hold(boolean holds, String otherwise) {
    if (!holds) {
      wrong++;
      System.out.println("README.md: " + otherwise);
    }
  }

  /** The answers that the example tells, in their order, each with its line. */
  private static List<String[]> shown(String example) {
    List<String[]> shown = new ArrayList<>();
    for (String line : example.split("\n")) {
      Matcher found = SHOWN.matcher(line);
      if (found.find()) {
        shown.add(new String[] {found.group(1), line.trim()});
      } else {
        hold(!line.matches(" +show\\(.*"), "no answer is told: " + line.trim());
      }
    }
    hold(shown.size() >= FEWEST_SHOWN, "only " + shown.size() + " answers are told");
    return shown;
  }

  private static List<String> printed(String example) throws Exception {
    Path room = Files.createTempDirectory("readme");
    try {
      Path source = room.resolve("Example.java");
      Files.writeString(source, example, StandardCharsets.US_ASCII);
      Path home = Path.of(OneTuneNine.class.getProtectionDomain().getCodeSource().getLocation().toURI());
      ToolProvider javac = ToolProvider.findFirst("javac").orElseThrow();
      int answer = javac.run(System.out, System.out, "-Xlint:all", "-Werror", "-cp", home.toString(),
          "-d", room.toString(), source.toString());
      hold(answer == 0, "the example does not compile");
      return answer == 0 ? output(room) : List.of();
    } finally {
      remove(room);
    }
  }

  private static List<String> output(Path room) throws Exception {
    PrintStream before = System.out;
    ByteArrayOutputStream out = new ByteArrayOutputStream();
    try (URLClassLoader loader = new URLClassLoader(new URL[] {room.toUri().toURL()})) {
      System.setOut(new PrintStream(out, true, StandardCharsets.US_ASCII));
      loader.loadClass("Example").getMethod("main", String[].class).invoke(null, (Object) new String[0]);
    } finally {
      System.setOut(before);
    }
    return out.toString(StandardCharsets.US_ASCII).lines().toList();
  }

  private static void remove(Path room) throws IOException {
    try (Stream<Path> all = Files.walk(room)) {
      for (Path each : all.sorted(Comparator.reverseOrder()).toList()) {
        Files.delete(each);
      }
    }
  }

  private static void compare(List<String[]> shown, List<String> printed) {
    hold(shown.size() == printed.size(), shown.size() + " answers are told, " + printed.size() + " printed");
    for (int i = 0; i < shown.size() && i < printed.size(); i++) {
      String[] one = shown.get(i);
      hold(one[0].equals(printed.get(i)), one[1] + " -- answered " + printed.get(i));
    }
  }

  private static void namesEveryCall(String text) {
    for (Method method : OneTuneNine.class.getDeclaredMethods()) {
      if (Modifier.isPublic(method.getModifiers())) {
        int parameters = method.getParameterCount();
        String told = parameters == 0 ? "" : parameters == 1 ? "\\w+" : "\\w+, \\w+";
        boolean named = Pattern.compile("`" + method.getName() + "\\(" + told + "\\)`").matcher(text).find();
        hold(named, "the tables do not name " + method.getName());
      }
    }
  }

  private static void namesEveryTest(String text) throws IOException {
    try (Stream<Path> tests = Files.list(Path.of("src/test/java"))) {
      for (Path test : tests.toList()) {
        String name = test.getFileName().toString().replace(".java", "");
        hold(text.contains("- `" + name + "`:"), "it does not tell of " + name);
      }
    }
  }
}
