import java.io.IOException;
import java.nio.file.Files;
import java.nio.file.Path;
import java.util.ArrayList;
import java.util.BitSet;
import java.util.List;
import java.util.Set;
import java.util.TreeSet;
import java.util.regex.Matcher;
import java.util.regex.Pattern;

/** The document by its sections, and which of its words some test has named. */
final class Document {
  static final int PROMISES = 34;
  private static final Path PLACE = Path.of("../shared/DOC.md");

  private final String[] texts = new String[PROMISES + 1];
  private final BitSet[] named = new BitSet[PROMISES + 1];

  Document() throws IOException {
    String all = Files.readString(PLACE);
    String whatItIs = section(all, "What it is");
    texts[0] = plain(whatItIs.substring(whatItIs.indexOf("====")) + " " + section(all, "Terms"));
    for (int promise = 1; promise <= PROMISES; promise++) {
      String text = section(all, "Promise " + promise + ": [^\n]*");
      texts[promise] = plain(text.replaceFirst("`[^`]*`: ", ""));
    }
    for (int i = 0; i <= PROMISES; i++) named[i] = new BitSet();
  }

  private static String section(String all, String heading) {
    Matcher found = Pattern.compile("(?s)\n## " + heading + "\n(.*?)(?=\n## |$)").matcher(all);
    if (!found.find()) throw new IllegalStateException("the document has no section " + heading);
    return found.group(1);
  }

  private static String plain(String text) {
    return text.replaceAll("```(text)?|====", " ").replaceAll("\\s+", " ").trim();
  }

  /** Whether the words stand in that section. */
  boolean name(int promise, String words) {
    int at = texts[promise].indexOf(words);
    boolean stands = at >= 0;
    while (at >= 0) {
      named[promise].set(at, at + words.length());
      at = texts[promise].indexOf(words, at + 1);
    }
    return stands;
  }

  /** Words of a section that no test has named. */
  List<String> unnamed(int promise) {
    List<String> all = new ArrayList<>();
    Matcher word = Pattern.compile("[A-Za-z0-9]+").matcher(texts[promise]);
    while (word.find()) {
      if (named[promise].nextClearBit(word.start()) < word.end()) all.add(word.group());
    }
    return all;
  }

  /** The refusals that a promise tells, from 1 for -1 to 7 for -7. */
  Set<Integer> refusalsOf(int promise) {
    Set<Integer> all = new TreeSet<>();
    Matcher number = Pattern.compile("-([1-7])\\b").matcher(texts[promise]);
    while (number.find()) all.add(Integer.parseInt(number.group(1)));
    return all;
  }
}
