/** What every test here uses: due answers compared, beaches fed, the end of a test. */
final class Due {
  static final int REFUSED = 1000000000;
  static final long REFUSED_LONG = 4000000000000000000L;
  private static int wrong = 0;
  private static int looked = 0;

  private Due() {}

  static void due(String call, long got, long want) {
    looked++;
    if (got != want) {
      wrong++;
      System.out.println(call + " answered " + got + ", due is " + want);
    }
  }

  static void rowDue(String call, int[] got, int... want) {
    due(call + ": how many", got.length, want.length);
    for (int k = 0; k < got.length && k < want.length; k++) {
      due(call + " at " + k, got[k], want[k]);
    }
  }

  static void feed(EldestSays x, String text) {
    for (int k = 0; k < text.length(); k++) {
      due("feed " + text.charAt(k) + " of " + text, x.feed(text.charAt(k)), k + 1);
    }
  }

  /** A new object to which the beach, which has no fault, has been told. */
  static EldestSays beach(String text) {
    EldestSays x = new EldestSays();
    tell(x, text);
    return x;
  }

  static void tell(EldestSays x, String text) {
    int statements = 0;
    for (int k = 0; k < text.length(); k++) {
      statements += text.charAt(k) == ';' ? 1 : 0;
    }
    feed(x, text);
    due("beach " + text, x.beach(), statements);
  }

  static int[] offer(EldestSays x, int i) {
    int[] row = new int[x.count(0) - i];
    for (int k = 0; k < row.length; k++) {
      row[k] = x.offered(i, i + k);
    }
    return row;
  }

  static int[] shares(EldestSays x, int i) {
    int[] row = new int[x.count(0) - i];
    for (int k = 0; k < row.length; k++) {
      row[k] = x.gets(i, i + k);
    }
    return row;
  }

  static void refusalsDue(EldestSays x, int nobody, int other, int state, int below, int room) {
    due("refusals -1", x.count(11), nobody);
    due("refusals -2", x.count(12), other);
    due("refusals -3", x.count(13), state);
    due("refusals -4", x.count(14), below);
    due("refusals -5", x.count(15), 0);
    due("refusals -6", x.count(16), room);
  }

  static void end() {
    System.out.println(looked + " answers looked at, " + wrong + " wrong");
    if (wrong != 0 || looked == 0) {
      System.exit(1);
    }
  }
}
