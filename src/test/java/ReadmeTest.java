import java.io.ByteArrayOutputStream;
import java.io.IOException;
import java.io.PrintStream;
import java.lang.reflect.Field;
import java.lang.reflect.Method;
import java.lang.reflect.Modifier;
import java.net.URL;
import java.net.URLClassLoader;
import java.nio.file.Files;
import java.nio.file.Path;
import java.util.ArrayList;
import java.util.Collections;
import java.util.List;
import java.util.regex.Matcher;
import java.util.regex.Pattern;
import javax.tools.JavaCompiler;
import javax.tools.ToolProvider;

/** README.md tells how to use the class: what it says must be so. Runs from the project's folder. */
public final class ReadmeTest {
  private static final Path README = Path.of("README.md");
  private static final Path BUILD = Path.of("build/readme");
  private static final Pattern PROGRAM = Pattern.compile("(?s)```java\n(.*?)```");
  private static final Pattern PRINTED = Pattern.compile("println\\(.*// (-?\\d+):");
  private static final Due DUE = new Due();

  public static void main(String[] args) throws Exception {
    String readme = Files.readString(README);
    programPrintsWhatItSays(readme);
    everyCallIsNamed(readme);
    everyConstantIsNamed(readme);
    everyTestIsNamed(readme);
    DUE.end("ReadmeTest");
  }

  private static void programPrintsWhatItSays(String readme) throws Exception {
    Matcher program = PROGRAM.matcher(readme);
    if (!program.find()) {
      DUE.fault("README.md shows no program");
      return;
    }
    List<String> said = new ArrayList<>();
    Matcher printed = PRINTED.matcher(program.group(1));
    while (printed.find()) {
      said.add(printed.group(1));
    }
    DUE.holds("README.md says what its program prints", !said.isEmpty());
    JavaCompiler compiler = ToolProvider.getSystemJavaCompiler();
    if (compiler == null) {
      System.out.println("ReadmeTest: no compiler here, the program is not tried");
    } else if (compiles(compiler, program.group(1))) {
      List<String> lines = printedByProgram();
      DUE.holds("the program prints " + said + ", not " + lines, lines.equals(said));
    } else {
      DUE.fault("README.md's program does not compile");
    }
  }

  private static boolean compiles(JavaCompiler compiler, String program) throws IOException {
    Files.createDirectories(BUILD);
    Path file = BUILD.resolve("Tower.java");
    Files.writeString(file, program);
    return compiler.run(null, null, null, "--release", "17", "-encoding", "UTF-8",
        "-cp", System.getProperty("java.class.path"), "-d", BUILD.toString(), file.toString()) == 0;
  }

  private static List<String> printedByProgram() throws Exception {
    ByteArrayOutputStream bytes = new ByteArrayOutputStream();
    PrintStream before = System.out;
    URL[] urls = {BUILD.toUri().toURL()};
    try (URLClassLoader loader = new URLClassLoader(urls, ReadmeTest.class.getClassLoader())) {
      System.setOut(new PrintStream(bytes, true));
      loader.loadClass("Tower").getMethod("main", String[].class)
          .invoke(null, (Object) new String[0]);
    } finally {
      System.setOut(before);
    }
    return bytes.toString().lines().toList();
  }

  private static void everyCallIsNamed(String readme) {
    for (Method m : StrikingWork.class.getDeclaredMethods()) {
      if (Modifier.isPublic(m.getModifiers())) {
        String names = String.join(", ", Collections.nCopies(m.getParameterCount(), "\\w+"));
        String row = "(?m)^\\|.*`" + m.getName() + "\\(" + names + "\\)`.*\\|$";
        DUE.holds("README.md's table names " + m, Pattern.compile(row).matcher(readme).find());
      }
    }
  }

  private static void everyConstantIsNamed(String readme) throws IllegalAccessException {
    for (Field f : StrikingWork.class.getDeclaredFields()) {
      if (Modifier.isPublic(f.getModifiers())) {
        String row = "| `" + f.getName() + "` | " + f.getInt(null) + " |";
        DUE.holds("README.md has the row " + row, readme.contains(row));
      }
    }
  }

  private static void everyTestIsNamed(String readme) throws IOException {
    try (var files = Files.list(Path.of("src/test/java"))) {
      for (Path file : files.sorted().toList()) {
        String name = file.getFileName().toString().replace(".java", "");
        if (name.endsWith("Test")) {
          DUE.holds("README.md names " + name, readme.contains("| `" + name + "` |"));
        }
      }
    }
  }
}
