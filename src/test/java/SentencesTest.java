import java.io.IOException;
import java.nio.file.Files;
import java.nio.file.Path;
import java.util.ArrayList;
import java.util.List;

/**
 * Each sentence of the document that names a boundary case, with a test of its own. Runs from the
 * project's folder, and looks into the document for the words that are tested.
 */
public final class SentencesTest {
  private static final Path DOCUMENT = Path.of("../shared/DOC.md");

  static List<Sentence> all() {
    List<Sentence> all = new ArrayList<>();
    TrainSentences.addTo(all);
    RunningSentences.addTo(all);
    ChangeSentences.addTo(all);
    StepSentences.addTo(all);
    ValueSentences.addTo(all);
    StateSentences.addTo(all);
    return all;
  }

  /** For BreaksTest, which calls it in a class loader with a broken class. */
  public static int faultsOf(int index) {
    return all().get(index).faults(false);
  }

  public static void main(String[] args) throws IOException {
    Due due = new Due();
    List<Sentence> all = all();
    for (Sentence s : all) {
      due.is(s.name() + "wrong answers", s.faults(true), 0);
    }
    if (Files.isReadable(DOCUMENT)) {
      wordsStandInDocument(due, all);
    } else {
      System.out.println("SentencesTest: no " + DOCUMENT + " to look the words up in");
    }
    System.out.println("SentencesTest: " + all.size() + " sentences");
    due.end("SentencesTest");
  }

  private static void wordsStandInDocument(Due due, List<Sentence> all) throws IOException {
    String[] sections = Files.readString(DOCUMENT).split("\n## ");
    for (Sentence s : all) {
      boolean found = false;
      for (String section : sections) {
        found |= section.startsWith(s.section) && oneLine(section).contains(oneLine(s.words));
      }
      due.holds("the document has, under \"" + s.section + "\": " + s.words, found);
    }
  }

  private static String oneLine(String text) {
    return text.replaceAll("\\s+", " ");
  }
}
