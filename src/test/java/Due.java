import java.io.IOException;
import java.nio.file.Files;
import java.nio.file.Path;

/** What every test here uses: due answers compared, beaches fed, the end of a test. */
final class Due {
  static final int REFUSED = 1000000000;
  static final long REFUSED_LONG = 4000000000000000000L;
  private static final Path DOCUMENT = Path.of("../shared/DOC.md");
  private static String document = "";
  private static String sentence = "";
  private static int wrong = 0;
  private static int looked = 0;

  private Due() {}

  static void due(String call, long got, long want) {
    looked++;
    if (got != want) {
      wrong++;
      String by = sentence.isEmpty() ? "" : " (by: " + sentence + ")";
      System.out.println(call + " answered " + got + ", due is " + want + by);
    }
  }

  /** The words by which the answers after this are due; they must stand in the document. */
  static void by(String words) {
    sentence = words;
    due("these words in the document", document().contains(words) ? 1 : 0, 1);
  }

  private static String document() {
    if (document.isEmpty()) {
      try {
        document = Files.readString(DOCUMENT);
      } catch (IOException missing) {
        throw new IllegalStateException("no document at " + DOCUMENT, missing);
      }
    }
    return document;
  }

  static void rowDue(String call, int[] got, int... want) {
    due(call + ": how many", got.length, want.length);
    for (int k = 0; k < got.length && k < want.length; k++) {
      due(call + " at " + k, got[k], want[k]);
    }
  }

  static void feed(EldestSays x, String text) {
    for (int k = 0; k < text.length(); k++) {
      due("feed " + text.charAt(k) + " of " + text, x.feed(text.charAt(k)), k + 1);
    }
  }

  /** A new object to which the beach, which has no fault, has been told. */
  static EldestSays beach(String text) {
    EldestSays x = new EldestSays();
    tell(x, text);
    return x;
  }

  static void tell(EldestSays x, String text) {
    int statements = 0;
    for (int k = 0; k < text.length(); k++) {
      statements += text.charAt(k) == ';' ? 1 : 0;
    }
    feed(x, text);
    due("beach " + text, x.beach(), statements);
  }

  /** What a text answers, with or without a fault. */
  static int told(EldestSays x, String text) {
    feed(x, text);
    return x.beach();
  }

  static void tellRow(EldestSays x, int... coins) {
    x.clear();
    for (int k = 0; k < coins.length; k++) {
      due("row(" + coins[k] + ")", x.row(coins[k]), k + 1);
    }
  }

  /** The sayer keeps all, and nobody votes yes. */
  static void putAshore(EldestSays x) {
    int coins = x.set(0, 10);
    int[] row = new int[x.count(0) - x.count(1)];
    row[0] = 10;
    tellRow(x, row);
    due("he is put ashore", x.goes(0), 0);
    x.set(0, coins);
  }

  static int[] offer(EldestSays x, int i) {
    int[] row = new int[x.count(0) - i];
    for (int k = 0; k < row.length; k++) {
      row[k] = x.offered(i, i + k);
    }
    return row;
  }

  static int[] shares(EldestSays x, int i) {
    int[] row = new int[x.count(0) - i];
    for (int k = 0; k < row.length; k++) {
      row[k] = x.gets(i, i + k);
    }
    return row;
  }

  static void refusalsDue(EldestSays x, int nobody, int other, int state, int below, int room) {
    due("refusals -1", x.count(11), nobody);
    due("refusals -2", x.count(12), other);
    due("refusals -3", x.count(13), state);
    due("refusals -4", x.count(14), below);
    due("refusals -5", x.count(15), 0);
    due("refusals -6", x.count(16), room);
  }

  static void end() {
    System.out.println(looked + " answers looked at, " + wrong + " wrong");
    if (wrong != 0 || looked == 0) {
      System.exit(1);
    }
  }
}
