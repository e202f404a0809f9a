import java.nio.charset.StandardCharsets;
import java.nio.file.Files;
import java.nio.file.Path;

/**
 * Leads a test along the document. Each sentence under a heading is named ahead of what is asked
 * about it: none may be left out, none may stand without a question, and none may be made up.
 */
final class Told {
  private static final Path DOCUMENT = Path.of("..", "shared", "DOC.md");

  private final Due due;
  private final String document;
  private String heading = "";
  private String left = "";
  private int askedBefore = 0;
  private boolean isOpen = false;

  Told(Due due) throws java.io.IOException {
    this.due = due;
    document = Files.readString(DOCUMENT, StandardCharsets.UTF_8);
  }

  /** Begins with the text under a promise, without its signature. */
  void promise(int number) {
    String text = begin("\n## Promise " + number + ": ", "\n## ");
    left = text.substring(text.indexOf("`: ") + 3);
  }

  /** Begins with one of the numbered sections of the terms. */
  void section(int number, String next) {
    left = begin("\n" + number + ". ", next);
    left = left.substring(left.indexOf('\n'));
  }

  /** Begins with what stands under another heading. */
  void part(String title) {
    left = begin("\n## " + title + "\n", "\n## ");
  }

  /** Names a sentence, or several that say one thing together; its questions come behind it. */
  void says(String... sentences) {
    close();
    due.about(heading + ": " + sentences[0]);
    for (String sentence : sentences) {
      int at = left.indexOf(sentence);
      if (at < 0) {
        due.tell("the document does not say: " + sentence);
      } else {
        left = left.substring(0, at) + left.substring(at + sentence.length());
      }
    }
    askedBefore = due.asked();
    isOpen = true;
  }

  /** Ends a heading: nothing may be left under it. */
  void end() {
    close();
    due.about(heading);
    due.sameText("what has no test", left.strip(), "");
    due.about("");
  }

  private void close() {
    if (isOpen && due.asked() == askedBefore) {
      due.tell("nothing was asked about it");
    }
    isOpen = false;
  }

  private String begin(String from, String to) {
    int start = document.indexOf(from);
    if (start < 0) {
      throw new IllegalArgumentException("the document has no " + from);
    }
    heading = document.substring(start, document.indexOf('\n', start + 1)).strip();
    int begun = start + from.length();
    int end = document.indexOf(to, begun);
    return document.substring(begun, end < 0 ? document.length() : end);
  }
}
