import java.io.IOException;
import java.lang.reflect.Method;
import java.lang.reflect.Modifier;
import java.nio.file.Files;
import java.nio.file.Path;
import java.util.Set;
import java.util.TreeSet;
import java.util.regex.Matcher;
import java.util.regex.Pattern;

/** The rules of LANGUAGE.md that a look at the source can tell. Runs from the project's folder. */
public final class LanguageTest {
  private static final Path SOURCE = Path.of("src/main/java/StrikingWork.java");
  private static final String FORBIDDEN =
      "\\b(throw|throws|try|catch|synchronized|assert|import|package|volatile|native|System"
      + "|hashCode|toString|equals|Object|protected|\\w+Exact)\\b|->|::";
  private static final Due DUE = new Due();

  public static void main(String[] args) throws IOException {
    String source = Files.readString(SOURCE);
    String code = source.replaceAll("(?s)/\\*.*?\\*/", " ").replaceAll("//[^\n]*", " ");
    noForbiddenWord(code);
    onlyKnownStatics(code);
    noPrivateNamesake();
    for (int i = 0; i < source.length(); i++) {
      if (source.charAt(i) > 127) {
        DUE.fault("a sign beyond 127 at " + i);
      }
    }
    DUE.end("LanguageTest");
  }

  private static void noForbiddenWord(String code) {
    Matcher m = Pattern.compile(FORBIDDEN).matcher(code);
    while (m.find()) {
      DUE.fault("the class must not use: " + m.group());
    }
  }

  private static void onlyKnownStatics(String code) {
    Matcher m = Pattern.compile("\\bstatic\\s+(?!final (int|long|class) |int |boolean )").matcher(code);
    while (m.find()) {
      DUE.fault("a static thing of another kind at " + m.start());
    }
  }

  private static void noPrivateNamesake() {
    Set<String> open = new TreeSet<>();
    for (Method m : StrikingWork.class.getDeclaredMethods()) {
      if (Modifier.isPublic(m.getModifiers())) {
        open.add(m.getName());
      }
    }
    namesakes(StrikingWork.class, open);
    for (Class<?> inside : StrikingWork.class.getDeclaredClasses()) {
      namesakes(inside, open);
    }
  }

  private static void namesakes(Class<?> c, Set<String> open) {
    for (Method m : c.getDeclaredMethods()) {
      if (!Modifier.isPublic(m.getModifiers()) && open.contains(m.getName())) {
        DUE.fault("bears the name of a public method: " + c.getName() + "." + m.getName());
      }
    }
  }
}
