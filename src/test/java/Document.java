import java.io.IOException;
import java.nio.charset.StandardCharsets;
import java.nio.file.Files;
import java.nio.file.Path;
import java.util.ArrayList;
import java.util.List;
import java.util.regex.Matcher;
import java.util.regex.Pattern;

/** What the document says of an object's use, under 'Terms' and each promise, and which words of it tests have quoted. */
final class Document {
  static final int TERMS = 0, PROMISES = 34, USE = 35;
  private static final Path FILE = Path.of("../shared/DOC.md");

  private final String[] sections = new String[USE + 1];
  private final boolean[][] quoted = new boolean[USE + 1][];

  /** Where the document is not at hand, the edges are tested all the same, but no quote is looked up. */
  private final boolean atHand = Files.isReadable(FILE);

  Document() {
    if (!atHand) {
      System.out.println("no document at " + FILE + ": quotes are not looked up");
      return;
    }
    String text = read();
    keep(USE, section(text, "What it is").replaceFirst("(?s)^.*(?=An object is used)", ""));
    keep(TERMS, terms(section(text, "Terms")));
    for (int n = 1; n <= PROMISES; n++) {
      // ahead of what a promise says stands the call's head
      keep(n, section(text, "Promise " + n + ": [^\n]*").replaceFirst("^\\s*`[^`]*`:", ""));
    }
  }

  private static String read() {
    try {
      return Files.readString(FILE, StandardCharsets.UTF_8);
    } catch (IOException e) {
      throw new IllegalStateException(e);
    }
  }

  private static String section(String text, String title) {
    Matcher m = Pattern.compile("(?s)\n## " + title + "\n(.*?)(?=\n## )").matcher(text);
    return m.find() ? m.group(1) : "";
  }

  /** Without marks, and without the lines that only tell under which head calls stand. */
  private static String terms(String text) {
    return text.replaceAll("```(text)?", " ").replaceAll("==== \\d", " ")
        .replaceAll("Ahead of the calls [^:]*:\\s*---- [1-4] [a-z, ]*\\.", " ")
        .replaceAll("Ahead of the calls [^:]*:\\s*---- 5", " ");
  }

  private void keep(int section, String text) {
    sections[section] = plain(text);
    quoted[section] = new boolean[sections[section].length()];
  }

  private static String plain(String text) {
    return text.replaceAll("\\s+", " ").trim();
  }

  /** Whether a section has these words; they are quoted from then on. */
  boolean quote(int section, String words) {
    if (!atHand) {
      return true;
    }
    int at = sections[section].indexOf(plain(words));
    boolean found = at >= 0;
    while (at >= 0) {
      for (int i = at; i < at + plain(words).length(); i++) {
        quoted[section][i] = true;
      }
      at = sections[section].indexOf(plain(words), at + 1);
    }
    return found;
  }

  static String title(int section) {
    return section == TERMS ? "Terms" : section == USE ? "What it is" : "Promise " + section;
  }

  /** What no test has quoted, piece by piece. */
  List<String> unquoted() {
    List<String> pieces = new ArrayList<>();
    for (int s = 0; s <= USE && atHand; s++) {
      StringBuilder piece = new StringBuilder();
      for (int i = 0; i <= sections[s].length(); i++) {
        if (i < sections[s].length() && !quoted[s][i]) {
          piece.append(sections[s].charAt(i));
        } else {
          if (!piece.toString().isBlank()) {
            pieces.add(title(s) + ": " + piece.toString().trim());
          }
          piece.setLength(0);
        }
      }
      if (sections[s].isEmpty()) {
        pieces.add(title(s) + ", which is empty");
      }
    }
    return pieces;
  }
}
