import java.util.ArrayList;
import java.util.List;

/** A sentence of the document, the test that holds the class against it, and how it could break. */
final class Sentence {
  interface Check {
    void look(Due due);
  }

  /** In the source, behind the anchor's first place, the old text becomes the new one. */
  record Break(String anchor, String old, String put) {}

  /** The heading of the document's section, behind "## ". */
  final String section;
  /** The numbers of the promises by which the sentence shows. */
  final String promises;
  final String words;
  final Check check;
  final List<Break> breaks = new ArrayList<>();

  private Sentence(String section, String promises, String words, Check check) {
    this.section = section;
    this.promises = promises;
    this.words = words;
    this.check = check;
  }

  static Sentence in(String section, String promises, String words, Check check) {
    return new Sentence(section, promises, words, check);
  }

  static Sentence of(int promise, String words, Check check) {
    return new Sentence("Promise " + promise + ":", "" + promise, words, check);
  }

  /** A way to break the sentence in the class, which the test must notice. */
  Sentence brokenBy(String anchor, String old, String put) {
    breaks.add(new Break(anchor, old, put));
    return this;
  }

  String name() {
    return "promise " + promises + ", \"" + words + "\": ";
  }

  /** How many answers are wrong; a throw is one, since the class may never throw. */
  int faults(boolean loud) {
    Due due = new Due(name(), loud);
    try {
      check.look(due);
    } catch (RuntimeException e) {
      due.fault("threw " + e);
    }
    return due.wrong();
  }
}
