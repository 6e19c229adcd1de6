/** Promises 25 and 26: shaken, seeds. */
public final class ChanceTest {
  public static void main(String[] args) {
    shaken();
    shakenRefused();
    seedsAlone();
    seedsOfTwo();
    seedsRefused();
    Due.end();
  }

  private static void fractionDue(String name, EldestSays x, long above, long below) {
    Due.due(name + " above the line", x.shaken(0), above);
    Due.due(name + " below the line", x.shaken(1), below);
  }

  private static void shaken() {
    fractionDue("one alone", Due.beach("m001;"), 1, 1);
    fractionDue("two by half", Due.beach("m001;m001;"), 1, 1);
    EldestSays x = Due.beach("m001;m001;l100;");
    fractionDue("two by more", x, 1, 10);
    x.set(4, 0);
    fractionDue("steady hands", x, 0, 1);
    x.set(4, 99);
    fractionDue("shaky hands", x, 99, 100);
    x = Due.beach("m001;m001;m001;");
    fractionDue("three by half", x, 91, 100);
    x.set(4, 50);
    fractionDue("by a coin", x, 3, 4);
    x.set(4, 99);
    fractionDue("shaky hands", x, 9901, 10000);
    x.set(4, 0);
    fractionDue("steady hands", x, 1, 1);
    // Only the heavy one decides: he is paid, and weighs more than all others.
    x = Due.beach("m001;m411;m411;m419;m411;m411;m411;m411;l100;");
    x.set(4, 37);
    fractionDue("one of eight decides", x, 63, 100);
    x = Due.beach("m001;m001;l100;");
    Due.due("one ashore", x.says(), 0);
    fractionDue("from the sayer on", x, 1, 1);
  }

  private static void shakenRefused() {
    EldestSays x = new EldestSays();
    Due.due("no men", x.shaken(0), Due.REFUSED_LONG + 3);
    Due.due("part 2", x.shaken(2), Due.REFUSED_LONG + 2);
    Due.due("part -1", x.shaken(-1), Due.REFUSED_LONG + 2);
    Due.tell(x, "m001;");
    Due.due("says", x.says(), 1);
    Due.due("done", x.shaken(1), Due.REFUSED_LONG + 3);
    Due.refusalsDue(x, 0, 2, 2, 0, 0);
  }

  private static void seedsAlone() {
    EldestSays x = Due.beach("m001;");
    Due.due("one evening", x.seeds(0, 1, 5), 10);
    Due.due("thirty evenings", x.seeds(0, 30, -5), 300);
    Due.due("says", x.says(), 1);
    Due.due("when it is done too", x.seeds(0, 3, 0), 30);
  }

  private static void seedsOfTwo() {
    // With seed 1 the draws below 32768 are 16838, 5758, 10113, 17515, 31051, 5627, 23010, 7419.
    EldestSays x = Due.beach("m001;m001;");
    int[] evens = {1, 2, 2, 2, 2, 2, 3, 3};
    for (int n = 1; n <= 8; n++) {
      Due.due("man 1, evenings " + n, x.seeds(1, n, 1), 10 * evens[n - 1]);
      Due.due("man 0, evenings " + n, x.seeds(0, n, 1), 10 * (n - evens[n - 1]));
    }
    x.set(1, 1);
    Due.due("ashore counts as 0", x.seeds(0, 3, 1), 20);
    Due.due("one ashore", x.says(), 0);
    Due.due("all sit there", x.seeds(0, 3, 1), 20);
    Due.due("the order is as it was", x.count(1), 1);
  }

  private static void seedsRefused() {
    EldestSays x = new EldestSays();
    Due.due("no men", x.seeds(0, 0, 1), -1);
    Due.tell(x, "m001;");
    Due.due("man 1", x.seeds(1, 31, 1), -1);
    Due.due("man -1", x.seeds(-1, 1, 1), -1);
    Due.due("0 evenings", x.seeds(0, 0, 1), -4);
    Due.due("-1 evenings", x.seeds(0, Integer.MIN_VALUE, 1), -4);
    Due.due("31 evenings", x.seeds(0, 31, 1), -6);
    Due.refusalsDue(x, 3, 0, 0, 2, 1);
  }
}
