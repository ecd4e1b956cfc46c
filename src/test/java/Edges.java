import java.io.IOException;
import java.nio.file.Files;
import java.nio.file.Path;
import java.util.ArrayList;
import java.util.List;
import java.util.TreeMap;
import java.util.function.Supplier;

/**
 * Helps the tests of the document's sentences. Each test says first which words it tests; at the end
 * uncovered() looks that the document has these words, and that it has no others.
 */
final class Edges {
  interface Call {
    long on(EndsInFive x);
  }

  /** A call with one number that is tried. */
  interface Made {
    long on(EndsInFive x, int v);
  }

  private record Quote(String part, String words) {
  }

  static final int MIN = Integer.MIN_VALUE;
  static final int MAX = Integer.MAX_VALUE;
  static final int BAD = -2;
  static final int OTHER = -3;
  static final int NOTHING = -4;
  static final int STUCK = -5;
  static final int FULL = -6;
  static final int FAR_BAD = -10000002;
  private static final int KINDS_OF_REFUSALS = 5;

  private static final List<Quote> QUOTES = new ArrayList<>();
  private static String label = "";

  private Edges() {
  }

  /** What follows tests these words of a part of the document (a section, REFUSALS, or a promise). */
  static void of(String part, String words) {
    QUOTES.add(new Quote(part, words));
    label = part + " [" + words + "] ";
  }

  static void is(String call, long got, long want) {
    Due.is(label + call, got, want);
  }

  static void is(String call, String got, String want) {
    Due.is(label + call, got, want);
  }

  private static String refusals(EndsInFive x, int more) {
    StringBuilder text = new StringBuilder();
    for (int i = 0; i < KINDS_OF_REFUSALS; i++) {
      text.append(x.status(12 + i) + (i == -2 - more ? 1 : 0)).append(' ');
    }
    return text.toString();
  }

  /** All that can be seen of two objects is the same: now, when the tape is read, when what was kept is back. */
  private static void same(String call, EndsInFive x, EndsInFive y) {
    is(call + ": all else", Due.sight(x), Due.sight(y));
    is(call + ": the tape", x.stall(), y.stall());
    is(call + ": behind the tape", Due.sight(x), Due.sight(y));
    is(call + ": what was kept", x.back(), y.back());
    is(call + ": behind what was kept", Due.sight(x), Due.sight(y));
  }

  /** A call answers this and isn't refused. */
  static void due(Supplier<EndsInFive> fresh, String call, Call made, long want) {
    EndsInFive x = fresh.get();
    is(call, made.on(x), want);
    is(call + ": refusals", refusals(x, 0), refusals(fresh.get(), 0));
  }

  /** A call answers this, isn't refused, and changes nothing. */
  static void tells(Supplier<EndsInFive> fresh, String call, Call made, long want) {
    EndsInFive x = fresh.get();
    EndsInFive y = fresh.get();
    is(call, made.on(x), want);
    is(call + ": refusals", refusals(x, 0), refusals(y, 0));
    same(call, x, y);
  }

  /** A call is refused: it changes nothing but how many such refusals there were. */
  static void refused(Supplier<EndsInFive> fresh, String call, Call made, long want) {
    EndsInFive x = fresh.get();
    EndsInFive y = fresh.get();
    int number = want == FAR_BAD ? BAD : (int) want;
    is(call, made.on(x), want);
    is(call + ": refusals", refusals(x, 0), refusals(y, number));
    same(call, x, y);
  }

  /** The least and the greatest number may be, those beside them and the farthest may not. */
  static void bounds(Supplier<EndsInFive> fresh, String call, Made made, int least, int greatest) {
    bounds(fresh, call, made, least, greatest, BAD);
  }

  static void bounds(Supplier<EndsInFive> fresh, String call, Made made, int least, int greatest, int number) {
    String none = refusals(fresh.get(), 0);
    for (int v : new int[] {least, greatest}) {
      if (least <= greatest) {
        EndsInFive x = fresh.get();
        made.on(x, v);
        is(call + " " + v + " may be: refusals", refusals(x, 0), none);
      }
    }
    for (int v : new int[] {least - 1, greatest + 1, MIN, MAX}) {
      refused(fresh, call + " " + v, x -> made.on(x, v), number);
    }
  }

  /** No number may be at all. */
  static void noneMayBe(Supplier<EndsInFive> fresh, String call, Made made) {
    bounds(fresh, call, made, 0, -1);
  }

  /** These slips are drawn in truth for the first buyer, whose purse is filled for it. */
  static void draw(EndsInFive x, int... slips) {
    for (int slip : slips) {
      x.purse(0, 9999);
      Due.book(x, 7, 0, slip);
      if (x.booked(7, 1, 0) < 0) {
        is("the test's own go of slip " + slip, -1, 0);
      }
    }
    x.show(7, -1);
  }

  /** The text is no stall: this is the fault, and nothing has come of it. */
  static void fault(Supplier<EndsInFive> fresh, String text, int place) {
    EndsInFive x = fresh.get();
    EndsInFive y = fresh.get();
    Due.feed(x, text);
    is("'" + text + "'", x.stall(), -20 - place);
    is("'" + text + "': refusals", refusals(x, 0), refusals(y, BAD));
    same("'" + text + "'", x, y);
  }

  /** The text is a stall of so many statements. */
  static EndsInFive reads(Supplier<EndsInFive> fresh, String text, int statements) {
    EndsInFive x = fresh.get();
    Due.feed(x, text);
    is("'" + text + "'", x.stall(), statements);
    is("'" + text + "': the tape is empty", x.status(8), 0);
    is("'" + text + "': refusals", refusals(x, 0), refusals(fresh.get(), 0));
    return x;
  }

  /** A stall with something of everything: a thing of each kind, goes, rows, a tape, an image unlike it. */
  static EndsInFive rich() {
    EndsInFive x = Due.stall("slips 30;rule 3;price 5 five 20;thing 0 3 0;thing 1 6 0;thing 2 9 0;thing 3 12 0;"
        + "thing 4 15 9;thing 5 18 1;buyer 500;buyer 40;buyer 7;likes 0 0 90;likes 0 4 800;likes 1 2 30;likes 2 5 999");
    x.seed(4711);
    x.image();
    Due.book(x, 0, 0, 3, 1, 7, 9);
    x.booked(0, 3, 0);
    Due.book(x, 1, 3, -1, 30);
    x.show(2, 3);
    x.show(3, 4);
    Due.feed(x, "price 9 five 8;buyer 3");
    x.slips(61);
    x.back();
    x.booked(0, 4, 1);
    return x;
  }

  /** As rich, with an empty tape. */
  static EndsInFive wiped() {
    EndsInFive x = rich();
    x.wipe();
    return x;
  }

  // ---- what of the document has a test

  private static String plain(String text) {
    return text.replace("```text", " ").replace("```", " ").replaceAll("\\s+", " ").trim();
  }

  private static TreeMap<String, String> parts(List<String> lines) {
    TreeMap<String, String> parts = new TreeMap<>();
    String part = "";
    for (String line : lines) {
      String text = line;
      if (line.startsWith("==== ")) {
        part = line.replaceFirst("==== \\d+\\. ([A-Z ]*[A-Z]).*", "$1");
        text = line.replaceFirst("==== \\d+\\. [A-Z ]*[A-Z]", "");
      } else if (line.startsWith("REFUSALS (")) {
        part = "REFUSALS";
      } else if (line.startsWith("## Promise ")) {
        part = line.replaceFirst("## Promise (\\d+):.*", "$1");
        text = "";
      } else if (line.startsWith("## ")) {
        part = "";
      }
      if (!part.isEmpty()) {
        parts.merge(part, text.replaceFirst("^`[^`]*`: ", ""), (a, b) -> a + " " + b);
      }
    }
    parts.replaceAll((key, text) -> plain(text));
    return parts;
  }

  /** Looks that each sentence of the document's terms, refusals and promises has a test, and none that isn't there. */
  static void uncovered() {
    Path doc = Path.of(System.getProperty("doc", "../shared/DOC.md"));
    if (!Files.exists(doc)) {
      System.out.println("no document at " + doc + ": it isn't looked whether each sentence has a test");
      return;
    }
    TreeMap<String, String> parts;
    try {
      parts = parts(Files.readAllLines(doc));
    } catch (IOException e) {
      Due.is("the document can be read", 0, 1);
      return;
    }
    Due.is("sections, REFUSALS and promises of the document", parts.size(), 57);
    TreeMap<String, StringBuilder> left = new TreeMap<>();
    parts.forEach((key, text) -> left.put(key, new StringBuilder(text)));
    for (Quote quote : QUOTES) {
      String words = plain(quote.words);
      int at = parts.getOrDefault(quote.part, "").indexOf(words);
      Due.is("the document's " + quote.part + " has: " + words, at >= 0 ? 1 : 0, 1);
      for (int i = 0; at >= 0 && i < words.length(); i++) {
        left.get(quote.part).setCharAt(at + i, ' ');
      }
    }
    left.forEach((key, text) -> Due.is("no test of its own in " + key, plain(text.toString()), ""));
  }
}
