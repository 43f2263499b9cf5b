import java.io.ByteArrayOutputStream;
import java.io.IOException;
import java.io.PrintStream;
import java.net.URL;
import java.net.URLClassLoader;
import java.nio.charset.StandardCharsets;
import java.nio.file.Files;
import java.nio.file.Path;
import javax.tools.JavaCompiler;
import javax.tools.ToolProvider;

/** README.md's example prints what README.md says; run from the project's directory. */
public final class ReadmeTest {
  public static void main(String[] args) throws Exception {
    String readme = Files.readString(Path.of("README.md"), StandardCharsets.UTF_8);
    String due = block(readme, "text");
    String example = block(readme, "java");
    JavaCompiler compiler = ToolProvider.getSystemJavaCompiler();
    if (compiler == null) {
      System.out.println("this java has no javac in it: README.md's example is not run");
    } else {
      String got = printed(compiler, example);
      if (!got.equals(due)) {
        System.out.println("README.md's example printed:\n" + got + "README.md says:\n" + due);
      }
      Checks.due("README.md's example is as it says", got.equals(due), true);
    }
    Checks.finish();
  }

  /** The first block of that kind. */
  private static String block(String readme, String kind) {
    String fence = "```" + kind + "\n";
    int from = readme.indexOf(fence);
    int to = readme.indexOf("```", from + fence.length());
    Checks.due("README.md has a block of " + kind, from >= 0 && to >= 0, true);
    return from >= 0 && to >= 0 ? readme.substring(from + fence.length(), to) : "";
  }

  private static String printed(JavaCompiler compiler, String source) throws Exception {
    Path out = Files.createTempDirectory("readme");
    try {
      Path file = Files.writeString(out.resolve("Example.java"), source);
      int answer = compiler.run(null, null, null, "-cp", System.getProperty("java.class.path"),
          "-d", out.toString(), file.toString());
      Checks.due("javac of README.md's example", answer, 0);
      return answer == 0 ? printedBy(out) : "";
    } finally {
      remove(out);
    }
  }

  private static String printedBy(Path classes) throws Exception {
    PrintStream console = System.out;
    ByteArrayOutputStream bytes = new ByteArrayOutputStream();
    URL[] places = {classes.toUri().toURL()};
    try (URLClassLoader loader = new URLClassLoader(places, ReadmeTest.class.getClassLoader())) {
      System.setOut(new PrintStream(bytes, true, StandardCharsets.UTF_8));
      loader.loadClass("Example").getMethod("main", String[].class)
          .invoke(null, (Object) new String[0]);
    } finally {
      System.setOut(console);
    }
    return bytes.toString(StandardCharsets.UTF_8).replace("\r\n", "\n");
  }

  private static void remove(Path directory) throws IOException {
    try (var files = Files.list(directory)) {
      for (Path file : files.toList()) {
        Files.delete(file);
      }
    }
    Files.delete(directory);
  }
}
