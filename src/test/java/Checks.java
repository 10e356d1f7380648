import java.io.IOException;
import java.nio.file.Files;
import java.nio.file.Path;

/** What the tests with answers written by hand share: counting, and the words of the document that a test is of. */
abstract class Checks {
  static final int BAD = -1, FULL = -2, STATE = -4, SPENT = -6, FAULT = -7, NONE = -9;
  static final int A = 0, B = 1, C = 2, D = 3, E = 4, F = 5, G = 6, H = 7, K = 10, X = 23, Y = 24, Z = 25;

  private static final Path DOCUMENT = Path.of("../shared/DOC.md");

  private static int passed = 0;
  private static int failed = 0;
  private static String promise = "";
  private static String document;

  /** What the checks from here on are of. */
  static void promise(String what) {
    promise = what;
  }

  /** As promise(), in the document's own words: so a test can't outlive the sentence that it is of. */
  static void sentence(String words) {
    promise(words);
    if (document == null) document = readDocument();
    due("the document says so", document.contains(words) ? 1 : 0, 1);
  }

  private static String readDocument() {
    try {
      return Files.readString(DOCUMENT).replaceAll("\\s+", " ");
    } catch (IOException e) {
      throw new IllegalStateException("no document at " + DOCUMENT, e);
    }
  }

  static void due(String call, long got, long want) {
    due(call, Long.toString(got), Long.toString(want));
  }

  static void due(String call, String got, String want) {
    if (got.equals(want)) {
      passed++;
    } else {
      failed++;
      System.out.println(promise + ": " + call + " answered " + got + ", due is " + want);
    }
  }

  static void end(String test) {
    System.out.println(test + ": " + passed + " passed, " + failed + " failed");
    if (failed != 0) System.exit(1);
  }
}
