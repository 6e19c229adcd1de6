/** Promises 18 to 24: alike, fewest, byLaw, gains, swap, bestAge, league. */
public final class WhatIfTest {
  public static void main(String[] args) {
    alikeByHalf();
    alikeLikeABeach();
    alikeRefused();
    fewest();
    byLaw();
    gains();
    swap();
    bestAge();
    league();
    leagueRefused();
    Due.end();
  }

  private static void alikeByHalf() {
    EldestSays x = new EldestSays();
    Due.due("one alone carries", x.alike(1, 7, 0, true), 1);
    Due.due("one alone gets all", x.alike(1, 7, 0, false), 7);
    Due.due("two without coins", x.alike(2, 0, 0, true), 1);
    Due.due("three without coins", x.alike(3, 0, 0, true), 0);
    Due.due("three without coins: the eldest", x.alike(3, 0, 0, false), -1);
    Due.due("three without coins: the next", x.alike(3, 0, 1, false), 0);
    Due.due("four without coins", x.alike(4, 0, 0, true), 1);
    // Beyond twice the coins it is carried at a power of two more.
    for (int n = 1; n <= 60; n++) {
      boolean carries = n <= 12 || n == 14 || n == 18 || n == 26 || n == 42;
      Due.due("five coins, men " + n, x.alike(n, 5, n - 1, true), carries ? 1 : 0);
    }
    Due.due("sixty with 29", x.alike(60, 29, 0, false), 0);
    Due.due("sixty with 99", x.alike(60, 99, 0, false), 70);
    Due.due("sixty with 99: a bought one", x.alike(60, 99, 2, false), 1);
    Due.due("sixty with 99: one not bought", x.alike(60, 99, 1, false), 0);
    x.set(1, 1);
    Due.due("more: two", x.alike(2, 5, 0, true), 0);
    Due.due("more: the eldest of two", x.alike(2, 5, 0, false), -1);
    Due.due("more: the other one", x.alike(2, 5, 1, false), 5);
    x.set(2, 1);
    Due.due("more, tie: the eldest of two", x.alike(2, 5, 0, false), 0);
    Due.due("more, tie: the other one", x.alike(2, 5, 1, false), 5);
  }

  private static void alikeLikeABeach() {
    for (int n = 1; n <= 8; n++) {
      for (int setting = 0; setting < 12; setting++) {
        EldestSays x = Due.beach("m001;".repeat(n));
        x.set(1, setting % 3);
        x.set(2, setting / 3 % 2);
        x.set(3, setting / 6);
        for (int c = 0; c <= 12; c++) {
          x.set(0, c);
          String name = n + " men, setting " + setting + ", coins " + c;
          Due.due(name + " carries", x.alike(n, c, 0, true), x.carries(0));
          for (int k = 0; k < n; k++) {
            Due.due(name + ", man " + k, x.alike(n, c, k, false), x.gets(0, k));
          }
        }
      }
    }
  }

  private static void alikeRefused() {
    EldestSays x = new EldestSays();
    int[][] below = {{0, 5, 0}, {-1, 5, 0}, {5, -1, 0}, {5, 5, -1}, {61, 100, -1}, {0, 100, 0}};
    int[][] above = {{61, 5, 0}, {5, 100, 0}, {5, 5, 5}, {1, 5, 1}, {60, 99, 60}};
    for (int[] a : below) {
      Due.due("below", x.alike(a[0], a[1], a[2], false), Due.REFUSED + 4);
      Due.due("below", x.alike(a[0], a[1], a[2], true), Due.REFUSED + 4);
    }
    for (int[] a : above) {
      Due.due("above", x.alike(a[0], a[1], a[2], false), Due.REFUSED + 6);
      Due.due("above", x.alike(a[0], a[1], a[2], true), Due.REFUSED + 6);
    }
    Due.refusalsDue(x, 0, 0, 0, 12, 10);
    Due.due("the greatest of all", x.alike(60, 99, 59, false), 0);
    Due.refusalsDue(x, 0, 0, 0, 12, 10);
  }

  private static void fewest() {
    EldestSays x = new EldestSays();
    Due.due("no men", x.fewest(), -3);
    Due.tell(x, "m001;m001;");
    Due.due("two by half", x.fewest(), 0);
    x.set(1, 1);
    Due.due("two by more: none", x.fewest(), -9);
    Due.due("one ashore", x.says(), 0);
    Due.due("from the sayer on", x.fewest(), 0);
    Due.due("coins are as they were", x.set(0, 10), 10);
    Due.due("done", x.says(), 1);
    Due.due("when it is done", x.fewest(), -3);
    Due.refusalsDue(x, 0, 0, 2, 0, 0);
    Due.due("three by half", Due.beach("m001;m001;m001;").fewest(), 1);
    Due.due("a fool's price", Due.beach("m001;m479;").fewest(), 7);
    Due.due("five of seven", Due.beach("m001;m489;m489;m489;m499;m499;m499;m499;l200;").fewest(), 42);
    x = Due.beach("m574;m599;m395;m051;m592;m591;m593;l200;");
    Due.due("all coins that there can be", x.fewest(), 99);
    x.set(0, 98);
    Due.due("one less", x.carries(0), 0);
    x.set(0, 99);
    Due.due("just as many", x.carries(0), 1);
    Due.due("a dear set", Due.beach("m001;m491;m491;m491;m491;l200;").fewest(), 27);
  }

  private static void byLaw() {
    EldestSays x = Due.beach("m001;m001;m001;");
    int[] more = {10, 0, 0};
    int[] tied = {10, 0, 0};
    for (int j = 0; j < 3; j++) {
      Due.due("by more", x.byLaw(1, 0, j), more[j]);
      Due.due("by half with tie", x.byLaw(0, 1, j), tied[j]);
      Due.due("by the same law", x.byLaw(0, 0, j), x.gets(0, j));
    }
    Due.due("by two thirds", x.byLaw(2, 0, 0), 10);
    Due.due("the law is as it was", x.set(1, 0), 0);
    Due.due("law 3", x.byLaw(3, 0, 0), Due.REFUSED + 2);
    Due.due("law -1", x.byLaw(-1, 0, 0), Due.REFUSED + 2);
    Due.due("tie 2", x.byLaw(0, 2, 9), Due.REFUSED + 2);
    Due.due("tie -1", x.byLaw(0, -1, 0), Due.REFUSED + 2);
    Due.due("man 3", x.byLaw(0, 0, 3), Due.REFUSED + 1);
    Due.due("man -1", x.byLaw(0, 0, -1), Due.REFUSED + 1);
    Due.refusalsDue(x, 2, 4, 0, 0, 0);
    Due.due("no men", new EldestSays().byLaw(0, 0, 0), Due.REFUSED + 1);
    x = Due.beach("m001;m001;m001;m001;l100;c2;");
    Due.due("the eldest buys two for one each", x.says(), 1);
    Due.due("done: nobody first", x.byLaw(0, 0, -1), Due.REFUSED + 1);
    Due.due("done", x.byLaw(0, 0, 0), Due.REFUSED + 3);
    x = Due.beach("m001;m001;l100;");
    Due.due("one ashore", x.says(), 0);
    Due.due("who is ashore", x.byLaw(0, 0, 0), Due.REFUSED + 1);
    Due.due("from the sayer on", x.byLaw(0, 0, 1), 10);
  }

  private static void gains() {
    EldestSays x = new EldestSays();
    Due.due("no men", x.gains(), 0);
    Due.tell(x, "m001;");
    Due.due("one man", x.gains(), 0);
    Due.tell(x, "m001;");
    Due.due("two by half", x.gains(), 2);
    x.set(1, 1);
    Due.due("two by more: no more ashore", x.gains(), 1);
    Due.due("one ashore", x.says(), 0);
    Due.due("the sayer is 0 then", x.gains(), 1);
    Due.due("done", x.says(), 1);
    Due.due("done too", x.gains(), 1);
    Due.due("nothing has changed", x.count(1), 1);
    Due.due("the men too", x.count(0), 2);
    // The man more weighs 1 and figures as a clever one.
    Due.due("who gets as much as before gains nothing", Due.beach("m001;c0;").gains(), 0);
    Due.due("heavy ones", Due.beach("m009;m009;").gains(), 2);
    Due.due("eight men", Due.beach("m001;m001;m001;m001;m001;m001;m001;m001;").gains(), 0);
    Due.due("seven men", Due.beach("m001;m001;m001;m001;m001;m001;m001;").gains(), 42);
    Due.refusalsDue(x, 0, 0, 0, 0, 0);
  }

  private static void swap() {
    EldestSays x = Due.beach("m123;m698;m431;");
    Due.due("bought before", x.bought(0) != -9 ? 1 : 0, 1);
    Due.due("swap", x.swap(0, 2), 1);
    int[][] men = {{4, 3, 1}, {6, 9, 8}, {1, 2, 3}};
    for (int j = 0; j < 3; j++) {
      for (int what = 0; what < 3; what++) {
        Due.due("man(" + j + ", " + what + ")", x.man(j, what), men[j][what]);
      }
    }
    Due.rowDue("the fool says now", Due.offer(x, 0), 4, 3, 3);
    Due.due("swap back", x.swap(2, 0), 1);
    Due.due("man 0", x.man(0, 0), 1);
    Due.due("one twice", x.swap(1, 1), -1);
    Due.due("nobody", x.swap(-1, 0), -1);
    Due.due("nobody", x.swap(0, 3), -1);
    Due.due("nobody twice", x.swap(3, 3), -1);
    Due.refusalsDue(x, 4, 0, 0, 0, 0);
    x = Due.beach("m001;m001;l100;");
    Due.due("one ashore", x.says(), 0);
    Due.due("swap then", x.swap(0, 1), -3);
    Due.due("nobody first", x.swap(0, 2), -1);
    Due.due("done", x.says(), 1);
    Due.due("swap when done", x.swap(0, 1), -3);
    x = Due.beach("m001;m001;");
    Due.due("done, nobody ashore", x.says(), 1);
    Due.due("swap when done", x.swap(0, 1), -3);
    Due.refusalsDue(x, 0, 0, 1, 0, 0);
    Due.due("no men", new EldestSays().swap(0, 1), -1);
  }

  private static void bestAge() {
    EldestSays x = Due.beach("m691;m001;");
    Due.due("the meek one is best the eldest", x.bestAge(0), 0);
    x.set(1, 1);
    Due.due("by more the youngest", x.bestAge(0), 1);
    Due.due("the clever one too", x.bestAge(1), 1);
    Due.due("nothing has changed", x.man(0, 0), 6);
    // Whoever sits before the heavy one is put ashore.
    x = Due.beach("m001;m301;m009;");
    Due.due("the heavy one", x.bestAge(2), 0);
    Due.due("a light one: behind the heavy one", x.bestAge(0), 2);
    Due.due("the fair one: likewise", x.bestAge(1), 2);
    Due.due("of several the least", Due.beach("m301;m301;").bestAge(1), 0);
    x = Due.beach("m001;m001;l100;");
    Due.due("one ashore", x.says(), 0);
    Due.due("from the eldest on", x.bestAge(0), 1);
    Due.due("done", x.says(), 1);
    Due.due("done too", x.bestAge(1), 1);
    Due.due("nobody", x.bestAge(2), -1);
    Due.due("nobody", x.bestAge(-1), -1);
    Due.refusalsDue(x, 2, 0, 0, 0, 0);
    Due.due("no men", new EldestSays().bestAge(0), -1);
  }

  private static void league() {
    EldestSays x = Due.beach("m001;m433;m422;m411;l200;c4;");
    Due.due("four pay for 1 and 3", x.bought(0), 10);
    Due.due("not, if 2 and 3 are one", x.league(12), 0);
    Due.due("but if 1 and 3 are", x.league(10), 1);
    x.set(0, 5);
    Due.due("five pay for 1 and 2, no more", x.league(12), 0);
    Due.due("as one", x.league(6), 1);
    x.set(0, 6);
    Due.due("six pay for all", x.league(14), 1);
    x = Due.beach("m301;m411;m411;");
    Due.due("the sayer is fair", x.league(6), 1);
    x.set(0, 1);
    Due.due("two are too dear", x.league(6), 0);
    x = Due.beach("m001;m401;m451;m401;c1;");
    Due.due("free ones vote yes", x.league(12), 1);
    Due.due("unless their league is dear", Due.beach("m001;m401;m451;m401;c1;l100;").league(14), 0);
    x = Due.beach("m002;m411;m411;");
    Due.due("he needs none", x.league(6), 1);
    x = Due.beach("m001;m491;m491;m411;m411;");
    Due.putAshore(x);
    Due.due("from the sayer on", x.league(24), 1);
    Due.due("the coins pay for one of the two", x.league(12), 1);
    x.set(1, 2);
    Due.due("by two thirds the coins pay for the league alone", x.league(12), 1);
    x.set(0, 9);
    Due.due("and no longer", x.league(12), 0);
  }

  private static void leagueRefused() {
    EldestSays x = new EldestSays();
    Due.due("no men", x.league(6), -3);
    Due.tell(x, "m001;m001;m001;");
    int[] wrong = {0, 2, 4, 1, 3, 5, 7, 8, 14, 1 << 30, -1, -2, Integer.MIN_VALUE, 6 + Integer.MIN_VALUE};
    for (int men : wrong) {
      Due.due("league(" + men + ")", x.league(men), -1);
    }
    Due.refusalsDue(x, wrong.length, 0, 1, 0, 0);
    Due.putAshore(x);
    Due.due("the sayer himself", x.league(6), -1);
    Due.due("done", x.says(), 1);
    Due.due("when it is done", x.league(6), -3);
    x = Due.beach("m001;m001;m001;m001;m001;m001;m001;m001;");
    Due.due("the last ones", x.league(192), 1);
    Due.due("a ninth", x.league(320), -1);
  }
}
