import java.io.IOException;
import java.io.PrintWriter;
import java.io.StringWriter;
import java.lang.reflect.Field;
import java.lang.reflect.Method;
import java.lang.reflect.Modifier;
import java.nio.charset.StandardCharsets;
import java.nio.file.Files;
import java.nio.file.Path;
import java.util.ArrayList;
import java.util.Arrays;
import java.util.HashMap;
import java.util.HashSet;
import java.util.List;
import java.util.Map;
import java.util.Set;
import java.util.TreeSet;
import java.util.regex.Matcher;
import java.util.regex.Pattern;
import java.util.spi.ToolProvider;

/** What of ../shared/LANGUAGE.md can be seen from outside: the face, words in the source, calls in the class files. */
public final class LanguageTest {
  private static final String[] FACE = {
      "int letter(int)", "int canon()", "int note(int,int)", "int voice(int,int)", "int pitch(int,int)",
      "int enter(int,int)", "int rounds(int)", "int step(int)", "int law(int)", "int sound(int,int)",
      "int ill(int)", "int first(int)", "int allIll()", "int entries(int,int)", "int added()", "int silent()",
      "int changed(int)", "int better()", "int mirror()", "long agreeing(int,int)", "int range(int,int)",
      "int stop(int)", "int unison()", "int row(int)", "int who(int)", "int judge(int,int)", "int seeds(int,int)",
      "int image()", "int on()", "int count(int)"};
  private static final String[] RULED_OUT = {
      "throws?", "try", "catch", "finally", "synchronized", "assert", "import", "package", "native", "volatile",
      "\\w*Exception", "Random", "Thread", "System", "Object", "double", "float", "var", "hashCode", "toString",
      "\\w+Exact", "protected", "->", "::"};
  private static final int MOST_LINES = 60;
  private static final int MOST_PARAMETERS = 7;
  private static final int MOST_FIELDS = 20;
  private static final int MOST_CLASSES = 12;
  private static final int MOST_DEPTH = 8;
  private static final Set<String> LIBRARY = Set.of(
      "java/lang/Object.\"<init>\"", "java/lang/Math.abs", "java/lang/Math.min", "java/lang/Math.max",
      "java/lang/String.charAt", "java/lang/String.length");
  /** The classes that look at indexes themselves; all others go through a Row. */
  private static final Set<String> WITH_ARRAYS = Set.of("OneTuneNine$Row", "OneTuneNine$Walks");

  private static int wrong = 0;

  public static void main(String[] args) throws IOException {
    face();
    for (Class<?> one : OneTuneNine.class.getDeclaredClasses()) {
      inside(one);
    }
    hold(OneTuneNine.class.getDeclaredClasses().length <= MOST_CLASSES, "too many classes");
    if (args.length > 0) {
      source(Files.readAllLines(Path.of(args[0]), StandardCharsets.ISO_8859_1));
    }
    ToolProvider.findFirst("javap").ifPresentOrElse(
        javap -> classFiles(disassembled(javap)),
        () -> System.out.println("LanguageTest: no javap in this java, so calls are not looked at"));
    System.out.println("LanguageTest: " + wrong + " wrong");
    if (wrong != 0) {
      System.exit(1);
    }
  }

  private static void hold(boolean holds, String otherwise) {
    if (!holds) {
      wrong++;
      System.out.println(otherwise);
    }
  }

  private static String signature(Method method) {
    StringBuilder text = new StringBuilder(method.getReturnType() + " " + method.getName() + "(");
    for (Class<?> type : method.getParameterTypes()) {
      text.append(text.charAt(text.length() - 1) == '(' ? "" : ",").append(type);
    }
    return text.append(")").toString();
  }

  private static void face() {
    Set<String> found = new TreeSet<>();
    for (Method method : OneTuneNine.class.getDeclaredMethods()) {
      if (Modifier.isPublic(method.getModifiers())) {
        hold(!Modifier.isStatic(method.getModifiers()), method + " is static");
        found.add(signature(method));
      } else {
        hold(Modifier.isPrivate(method.getModifiers()) || method.isSynthetic(), method + " is not private");
      }
    }
    Set<String> due = new TreeSet<>(Arrays.asList(FACE));
    hold(found.equals(due), "the face is " + found + ", due is " + due);
    hold(Modifier.isFinal(OneTuneNine.class.getModifiers()), "the class is not final");
    hold(OneTuneNine.class.getConstructors().length == 1, "there is not one public constructor");
    members(OneTuneNine.class);
  }

  private static void inside(Class<?> one) {
    int modifiers = one.getModifiers();
    hold(Modifier.isStatic(modifiers), one + " is not static");
    hold(!Modifier.isPublic(modifiers) && !Modifier.isProtected(modifiers), one + " is seen from outside");
    members(one);
  }

  private static void members(Class<?> one) {
    int own = 0;
    for (Field field : one.getDeclaredFields()) {
      if (Modifier.isStatic(field.getModifiers())) {
        hold(Modifier.isFinal(field.getModifiers()), field + " is static and can change");
      } else {
        own++;
      }
      hold(Modifier.isPrivate(field.getModifiers()), field + " is not private");
    }
    hold(own <= MOST_FIELDS, one + " has too many fields");
    for (Method method : one.getDeclaredMethods()) {
      hold(method.getParameterCount() <= MOST_PARAMETERS, method + " takes too much");
      if (!Modifier.isPublic(method.getModifiers())) {
        for (String face : FACE) {
          hold(!face.contains(" " + method.getName() + "("), method + " bears the name of a public one");
        }
      }
    }
  }

  private static void source(List<String> lines) {
    List<String> code = withoutCommentsAndTexts(lines);
    for (int i = 0; i < code.size(); i++) {
      String line = code.get(i);
      for (String word : RULED_OUT) {
        String sought = Character.isLetter(word.charAt(0)) || word.startsWith("\\") ? "\\b" + word + "\\b" : word;
        hold(!Pattern.compile(sought).matcher(line).find(), "line " + (i + 1) + " says " + word + ": " + line);
      }
      hold(line.chars().allMatch(c -> c >= 32 && c < 127), "line " + (i + 1) + " has strange signs");
    }
    methodsAreShort(code);
  }

  private static List<String> withoutCommentsAndTexts(List<String> lines) {
    List<String> code = new ArrayList<>();
    boolean comment = false;
    for (String line : lines) {
      String trimmed = line.trim();
      comment |= trimmed.startsWith("/*");
      code.add(comment || trimmed.startsWith("//") ? "" : line.replaceAll("\"[^\"]*\"", "\"\""));
      comment &= !trimmed.endsWith("*/");
    }
    return code;
  }

  /** A method begins where a line ends with ") {" at the depth of members, and ends at the brace of its depth. */
  private static void methodsAreShort(List<String> code) {
    Pattern head = Pattern.compile("^( {2}| {4})(?=\\S)[\\w\\[\\] ]+\\(.*\\) \\{$");
    for (int i = 0; i < code.size(); i++) {
      Matcher begins = head.matcher(code.get(i));
      if (begins.find() && !code.get(i).trim().matches("(if|for|while|switch)\\b.*")) {
        int end = i;
        while (end < code.size() - 1 && !code.get(end).equals(begins.group(1) + "}")) {
          end++;
        }
        hold(end - i < MOST_LINES, "line " + (i + 1) + ": a method of " + (end - i) + " lines");
      }
    }
  }

  private static String disassembled(ToolProvider javap) {
    String home = OneTuneNine.class.getProtectionDomain().getCodeSource().getLocation().getPath();
    List<String> told = new ArrayList<>(List.of("-c", "-p", "-cp", home, "OneTuneNine"));
    for (Class<?> one : OneTuneNine.class.getDeclaredClasses()) {
      told.add(one.getName());
    }
    StringWriter text = new StringWriter();
    PrintWriter out = new PrintWriter(text);
    int answer = javap.run(out, out, told.toArray(new String[0]));
    hold(answer == 0, "javap answered " + answer);
    return text.toString();
  }

  private static void classFiles(String disassembled) {
    Pattern classHead = Pattern.compile("^[\\w ]*class ([\\w$]+) \\{$");
    Pattern methodHead = Pattern.compile("^  [^ ].*?([\\w$]+)\\(.*\\);$");
    Pattern call = Pattern.compile("// (?:Interface)?Method (?:([\\w$/]+)\\.)?(\"<init>\"|\\w+):");
    Map<String, Set<String>> calls = new HashMap<>();
    String inClass = "";
    String inMethod = "";
    for (String line : disassembled.split("\n")) {
      Matcher found = classHead.matcher(line);
      if (found.find()) {
        inClass = found.group(1);
      }
      found = methodHead.matcher(line);
      if (found.find()) {
        String name = found.group(1).equals(inClass) ? "\"<init>\"" : found.group(1);
        inMethod = inClass + "." + name;
        calls.put(inMethod, new HashSet<>());
      }
      found = call.matcher(line);
      if (found.find()) {
        String called = (found.group(1) == null ? inClass : found.group(1)) + "." + found.group(2);
        hold(called.startsWith("OneTuneNine") || LIBRARY.contains(called), inMethod + " calls " + called);
        calls.get(inMethod).add(called);
      }
      boolean indexes = line.matches(".*: ([ilbcsa]a(load|store)|a?newarray|arraylength)\\b.*");
      hold(!indexes || WITH_ARRAYS.contains(inClass), inMethod + " uses an array itself: " + line);
      hold(!line.matches(".*: (athrow|invokedynamic|instanceof|checkcast)\\b.*"), inMethod + ": " + line);
    }
    hold(calls.size() > FACE.length, "only " + calls.size() + " methods were found in the class files");
    for (String method : calls.keySet()) {
      int depth = depth(method, calls, 0);
      hold(depth <= MOST_DEPTH, method + " goes " + depth + " deep");
    }
  }

  /** How many methods of ours stand open at once at most, the first one too. */
  private static int depth(String method, Map<String, Set<String>> calls, int above) {
    if (!calls.containsKey(method) || above > 30) {
      return above > 30 ? 1000 : 0;
    }
    int deepest = 0;
    for (String called : calls.get(method)) {
      deepest = Math.max(deepest, depth(called, calls, above + 1));
    }
    return deepest + 1;
  }
}
