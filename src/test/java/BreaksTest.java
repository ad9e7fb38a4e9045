import java.io.File;
import java.io.IOException;
import java.io.OutputStream;
import java.lang.reflect.InvocationTargetException;
import java.lang.reflect.Method;
import java.net.URL;
import java.net.URLClassLoader;
import java.nio.file.Files;
import java.nio.file.Path;
import java.util.ArrayList;
import java.util.List;
import javax.tools.JavaCompiler;
import javax.tools.ToolProvider;

/**
 * Tests the tests: breaks the class in the way that a sentence names, and asks the sentence's own
 * test whether it notices. Runs from the project's folder. A break whose text is no longer in the
 * source (the class may be written in another way) is told, but is no failure.
 */
public final class BreaksTest {
  private static final Path SOURCE = Path.of("src/main/java/StrikingWork.java");
  private static final Path BUILD = Path.of("build/breaks");
  private static final JavaCompiler COMPILER = ToolProvider.getSystemJavaCompiler();
  private static final Due DUE = new Due();

  private static int noticed = 0;
  private static int idle = 0;

  public static void main(String[] args) throws Exception {
    if (COMPILER == null) {
      System.out.println("BreaksTest: no compiler here, nothing tried");
      return;
    }
    String source = Files.readString(SOURCE);
    List<Sentence> all = SentencesTest.all();
    tryUnbroken(source, all);
    for (int i = 0; i < all.size(); i++) {
      for (Sentence.Break b : all.get(i).breaks) {
        tryBreak(source, all.get(i), i, b);
      }
    }
    System.out.println("BreaksTest: " + noticed + " breaks noticed, " + idle + " do not apply");
    DUE.end("BreaksTest");
  }

  /** Else a fault of this way of loading would count as noticing a break. */
  private static void tryUnbroken(String source, List<Sentence> all) throws Exception {
    Path classes = BUILD.resolve("unbroken");
    DUE.holds("the class compiles", compiles(source, classes));
    for (int i = 0; i < all.size(); i++) {
      DUE.holds(all.get(i).name() + "no fault in the unbroken class", !isNoticed(classes, i));
    }
  }

  private static void tryBreak(String source, Sentence s, int index, Sentence.Break b)
      throws Exception {
    String broken = broken(source, b);
    Path classes = BUILD.resolve("b" + (noticed + idle + DUE.wrong()));
    if (broken == null || !compiles(broken, classes)) {
      idle++;
      System.out.println("does not apply: " + s.name() + b);
    } else if (isNoticed(classes, index)) {
      noticed++;
    } else {
      DUE.fault("not noticed: " + s.name() + b);
    }
  }

  private static String broken(String source, Sentence.Break b) {
    int from = source.indexOf(b.anchor());
    int at = from < 0 ? -1 : source.indexOf(b.old(), from);
    if (at < 0) {
      return null;
    }
    return source.substring(0, at) + b.put() + source.substring(at + b.old().length());
  }

  private static boolean compiles(String source, Path classes) throws IOException {
    Files.createDirectories(classes);
    Path file = classes.resolve("StrikingWork.java");
    Files.writeString(file, source);
    OutputStream nowhere = OutputStream.nullOutputStream();
    return COMPILER.run(null, nowhere, nowhere, "--release", "17", "-encoding", "UTF-8",
        "-d", classes.toString(), file.toString()) == 0;
  }

  /** The test's classes are loaded anew, so that they find the broken class in its stead. */
  private static boolean isNoticed(Path classes, int index) throws Exception {
    List<URL> urls = new ArrayList<>();
    urls.add(classes.toUri().toURL());
    for (String entry : System.getProperty("java.class.path").split(File.pathSeparator)) {
      urls.add(Path.of(entry).toUri().toURL());
    }
    ClassLoader above = ClassLoader.getPlatformClassLoader();
    try (URLClassLoader loader = new URLClassLoader(urls.toArray(new URL[0]), above)) {
      Method faultsOf = loader.loadClass("SentencesTest").getMethod("faultsOf", int.class);
      return (Integer) faultsOf.invoke(null, index) > 0;
    } catch (InvocationTargetException e) {
      return true;
    }
  }
}
