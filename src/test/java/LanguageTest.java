import java.lang.management.ManagementFactory;
import java.lang.reflect.Executable;
import java.lang.reflect.Field;
import java.lang.reflect.Method;
import java.lang.reflect.Modifier;
import java.nio.charset.StandardCharsets;
import java.nio.file.Files;
import java.nio.file.Path;
import java.util.ArrayList;
import java.util.List;
import java.util.Set;
import java.util.TreeSet;
import java.util.regex.Matcher;
import java.util.regex.Pattern;

/**
 * The rules of LANGUAGE.md, by their numbers, that can be told from the program's source and its
 * classes, and the room that its calls need; run from the project's directory.
 */
public final class LanguageTest {
  private static final Path SOURCE = Path.of("src/main/java/ValueBlocks.java");
  /** Comments, and texts and characters, which may say what the program may not. */
  private static final Pattern SAYINGS = Pattern.compile(
      "/\\*.*?\\*/|//[^\\n]*|\"(?:\\\\.|[^\"\\\\])*\"|'(?:\\\\.|[^'\\\\])+'", Pattern.DOTALL);
  private static final Set<String> FORBIDDEN_WORDS = Set.of("throw", "throws", "try", "catch",
      "finally", "synchronized", "assert", "volatile", "native", "strictfp", "transient", "package",
      "protected", "Object", "Thread", "Random", "Scanner", "Class", "Optional", "Stream", "Map",
      "HashMap", "Set", "HashSet", "Iterable", "equals", "hashCode", "toString", "yield", "var",
      "sealed", "permits", "StrictMath", "ThreadLocal", "Runtime", "Process", "File");
  private static final Set<String> LIBRARY = Set.of("Math.abs", "Math.max", "Math.min",
      "Math.floorDiv", "Math.floorMod", "Math.floor", "Integer.compare", "Integer.bitCount",
      "Long.compare", "Long.bitCount", "System.arraycopy", "Arrays.copyOf", "Arrays.copyOfRange",
      "Arrays.fill", "List.of");
  private static final Set<String> IMPORTS = Set.of("java.util.Arrays", "java.util.ArrayList",
      "java.util.List", "java.util.Iterator");
  private static final int ELEMENTS_OF_THE_ROOM = 7300000;

  public static void main(String[] args) throws Exception {
    String source = Files.readString(SOURCE, StandardCharsets.ISO_8859_1);
    String code = SAYINGS.matcher(source).replaceAll(" 0 ");
    rule1And2TheFace(code);
    rule3And5TheFields();
    rule3TheSigns(source);
    rule4TheLibrary(code);
    rule6And10TheWords(code);
    rule9LoopsHaveAnEnd(code);
    rule11TheSizes(source);
    theRoomOf512Calls();
    Checks.finish();
  }

  private static void refuse(String what) {
    Checks.due(what, true, false);
  }

  private static List<Class<?>> classes() {
    List<Class<?>> all = new ArrayList<>(List.of(ValueBlocks.class));
    for (int i = 0; i < all.size(); i++) {
      all.addAll(List.of(all.get(i).getDeclaredClasses()));
    }
    return all;
  }

  private static Set<String> faceNames() {
    Set<String> names = new TreeSet<>();
    for (Method method : ValueBlocks.class.getDeclaredMethods()) {
      if (Modifier.isPublic(method.getModifiers())) {
        names.add(method.getName());
      }
    }
    return names;
  }

  private static void rule1And2TheFace(String code) {
    Set<String> face = faceNames();
    for (Class<?> one : classes()) {
      if (one != ValueBlocks.class
          && (!Modifier.isStatic(one.getModifiers()) || Modifier.isPublic(one.getModifiers()))) {
        refuse(one + " is public, or not static");
      }
      if (one.isLocalClass() || one.isAnonymousClass()) {
        refuse(one + " has no name of its own, or stands in a method");
      }
      for (Method method : one.getDeclaredMethods()) {
        if (Modifier.isPrivate(method.getModifiers()) && face.contains(method.getName())) {
          refuse(one + " has a private method with a public one's name, " + method.getName());
        }
        if (method.isSynthetic()) {
          refuse(one + " has " + method.getName() + ", which a lambda or the like makes");
        }
      }
    }
    for (Field field : ValueBlocks.class.getDeclaredFields()) {
      if (!Modifier.isPrivate(field.getModifiers())) {
        refuse(field.getName() + " is not private");
      }
    }
    if (code.contains("->") || code.contains("::")) {
      refuse("a lambda or a method's reference");
    }
  }

  private static void rule3And5TheFields() {
    Set<Class<?>> plain = Set.of(int.class, long.class, short.class, byte.class, char.class,
        boolean.class, String.class, StringBuilder.class, Integer.class);
    List<Class<?>> own = classes();
    for (Class<?> one : own) {
      for (Field field : one.getDeclaredFields()) {
        Class<?> type = field.getType();
        Class<?> part = type.isArray() ? type.getComponentType() : type;
        boolean list = part == List.class || part == ArrayList.class;
        if (!plain.contains(part) && !own.contains(part) && !list && part != int[].class) {
          refuse(field + " has a type that the rules do not list");
        }
        if (Modifier.isStatic(field.getModifiers()) && (!Modifier.isFinal(field.getModifiers())
            || type.isArray() && own.contains(part) || list)) {
          refuse(field + " is static, and can change");
        }
      }
    }
  }

  private static void rule3TheSigns(String source) {
    for (int i = 0; i < source.length(); i++) {
      if (source.charAt(i) < 1 || source.charAt(i) > 127) {
        refuse("the sign " + (int) source.charAt(i) + " at " + i);
      }
    }
  }

  private static void rule4TheLibrary(String code) {
    Matcher imports = Pattern.compile("import\\s+([^;]+);").matcher(code);
    while (imports.find()) {
      if (!IMPORTS.contains(imports.group(1))) {
        refuse("import " + imports.group(1));
      }
    }
    String rest = imports.replaceAll("");
    if (rest.contains("java.") || rest.contains("javax.")) {
      refuse("a name of the library beside the imports");
    }
    String names = "Math|Integer|Long|System|Arrays|List|Character|String";
    Matcher calls = Pattern.compile("\\b(" + names + ")\\s*\\.\\s*(\\w+)").matcher(rest);
    while (calls.find()) {
      String call = calls.group(1) + "." + calls.group(2);
      if (!LIBRARY.contains(call)) {
        refuse(call);
      }
    }
  }

  private static void rule6And10TheWords(String code) {
    Matcher words = Pattern.compile("[A-Za-z_]\\w*").matcher(code);
    while (words.find()) {
      if (FORBIDDEN_WORDS.contains(words.group())) {
        refuse(words.group() + " at " + words.start());
      }
    }
    if (Pattern.compile("\\bstatic\\s*\\{").matcher(code).find()) {
      refuse("a static initialiser block");
    }
    if (code.contains("@")) {
      refuse("an annotation");
    }
  }

  private static void rule9LoopsHaveAnEnd(String code) {
    if (Pattern.compile("for\\s*\\([^;)]*;\\s*;|while\\s*\\(\\s*true").matcher(code).find()) {
      refuse("a loop without an end");
    }
  }

  private static void rule11TheSizes(String source) {
    if (classes().size() > 12) {
      refuse(classes().size() + " classes");
    }
    for (Class<?> one : classes()) {
      int fields = 0;
      for (Field field : one.getDeclaredFields()) {
        fields += Modifier.isStatic(field.getModifiers()) ? 0 : 1;
      }
      if (fields > 20) {
        refuse(fields + " fields in " + one);
      }
      List<Executable> all = new ArrayList<>(List.of(one.getDeclaredMethods()));
      all.addAll(List.of(one.getDeclaredConstructors()));
      for (Executable method : all) {
        if (method.getParameterCount() > 7) {
          refuse(method + " has more than seven parameters");
        }
      }
    }
    lengthsOfMethods(source.split("\n", -1));
  }

  /** Of a head that opens a brace to the line that closes it at the same indent. */
  private static void lengthsOfMethods(String[] lines) {
    Pattern head = Pattern.compile(
        "( ++)(?!(?:if|for|while|switch|do)\\b)[\\w<>\\[\\] ]+\\(.*\\) \\{");
    int methods = 0;
    for (int i = 0; i < lines.length; i++) {
      Matcher matcher = head.matcher(lines[i]);
      if (matcher.matches()) {
        methods++;
        int last = i;
        while (last < lines.length && !lines[last].equals(matcher.group(1) + "}")) {
          last++;
        }
        if (last - i + 1 > 60) {
          refuse("the " + (last - i + 1) + " lines of " + lines[i].trim());
        }
      }
    }
    Checks.due("the methods are found", methods > 50, true);
  }

  /** The dearest runs of calls that one object may see stay far below the room of them all. */
  private static void theRoomOf512Calls() {
    if (!(ManagementFactory.getThreadMXBean() instanceof com.sun.management.ThreadMXBean)) {
      return;
    }
    // The first object of all loads the classes, too.
    calls(new ValueBlocks(), 2);
    Checks.due("the bytes of a new object", made(0) < 20000, true);
    for (int kind = 1; kind <= 3; kind++) {
      long elements = made(kind) / Integer.BYTES;
      if (elements > ELEMENTS_OF_THE_ROOM / 10) {
        refuse("the " + elements + " elements that calls of kind " + kind + " make");
      }
    }
  }

  /**
   * The bytes that a new object and calls of the kind make, at their dearest: the first times, as
   * later the machine may spare what is made and thrown away at once.
   */
  private static long made(int kind) {
    var threads = (com.sun.management.ThreadMXBean) ManagementFactory.getThreadMXBean();
    long most = 0;
    for (int turn = 0; turn < 3; turn++) {
      long before = threads.getCurrentThreadAllocatedBytes();
      calls(new ValueBlocks(), kind);
      most = Math.max(most, threads.getCurrentThreadAllocatedBytes() - before);
    }
    return most;
  }

  private static void calls(ValueBlocks x, int kind) {
    if (kind == 1) {
      // The most lines a text can have.
      lines(x, 400);
      x.read();
      for (int i = 0; i < 100; i++) {
        x.run(8000);
      }
    } else if (kind == 2) {
      // Many texts, read and run.
      for (int i = 0; i < 128; i++) {
        lines(x, 1);
        x.end(19);
        x.read();
        x.run(30000);
      }
    } else if (kind == 3) {
      // Two long texts, one a program and one at fault, the tray filled behind them.
      lines(x, 250);
      x.read();
      lines(x, 250);
      x.read();
      x.run(30000);
    }
  }

  /** Of each feed() a line "#1=#1+#1*1", and nine that are empty. */
  private static void lines(ValueBlocks x, int feeds) {
    for (int i = 0; i < feeds; i++) {
      x.feed(0x23313D23, 0x312B2331, 0x2A310A0A, 0x0A0A0A0A, 0x0A0A0A0A);
    }
  }
}
