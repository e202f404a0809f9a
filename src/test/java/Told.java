import java.nio.charset.StandardCharsets;
import java.nio.file.Files;
import java.nio.file.Path;

/**
 * Leads a test along the document. Each sentence under a heading is named ahead of what is asked
 * about it: none may be left out, none may stand without a question, and none may be made up. Where
 * there is no document the questions are asked all the same.
 */
final class Told {
  static final Path DOCUMENT = Path.of("..", "shared", "DOC.md");

  private final Due due;
  private final boolean isThere = Files.exists(DOCUMENT);
  private final String document;
  private String heading = "";
  private String left = "";
  private int askedBefore = 0;
  private boolean isOpen = false;

  Told(Due due) throws java.io.IOException {
    this.due = due;
    document = isThere ? Files.readString(DOCUMENT, StandardCharsets.UTF_8) : "";
    if (!isThere) {
      System.out.println("  no document here: its sentences are not compared");
    }
  }

  /** Begins with the text under a promise, without its signature. */
  void promise(int number) {
    String text = begin("\n## Promise " + number + ": ", "\n## ");
    left = text.substring(Math.max(text.indexOf("`: "), 0)).replaceFirst("^`: ", "");
  }

  /** Begins with one of the numbered sections of the terms. */
  void section(int number, String next) {
    String text = begin("\n" + number + ". ", next);
    left = text.substring(Math.max(text.indexOf('\n'), 0));
  }

  /** Begins with what stands under another heading. */
  void part(String title) {
    left = begin("\n## " + title + "\n", "\n## ");
  }

  /** Names a sentence, or several that say one thing together; its questions come behind it. */
  void says(String... sentences) {
    close();
    due.about(heading + ": " + sentences[0]);
    for (String sentence : sentences) {
      takeOut(sentence);
    }
    askedBefore = due.asked();
    isOpen = true;
  }

  /** Ends a heading: nothing may be left under it. */
  void end() {
    close();
    due.about(heading);
    due.sameText("what has no test", left.strip(), "");
    due.about("");
  }

  private void takeOut(String sentence) {
    int at = left.indexOf(sentence);
    if (at >= 0) {
      left = left.substring(0, at) + left.substring(at + sentence.length());
    } else if (isThere) {
      due.tell("the document does not say: " + sentence);
    }
  }

  private void close() {
    if (isOpen && due.asked() == askedBefore) {
      due.tell("nothing was asked about it");
    }
    isOpen = false;
  }

  private String begin(String from, String to) {
    if (!isThere) {
      heading = from.strip();
      return "";
    }
    int start = document.indexOf(from);
    if (start < 0) {
      throw new IllegalArgumentException("the document has no " + from);
    }
    heading = document.substring(start, document.indexOf('\n', start + 1)).strip();
    int begun = start + from.length();
    int end = document.indexOf(to, begun);
    return document.substring(begun, end < 0 ? document.length() : end);
  }
}
