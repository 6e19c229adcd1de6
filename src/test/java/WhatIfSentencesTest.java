import java.math.BigInteger;

/** Terms, II: from alike men to seeds. Each method keeps one sentence. */
public final class WhatIfSentencesTest {
  public static void main(String[] args) {
    alike();
    alikeAsTheyAre();
    alikeWhetherTheEldestCarries();
    alikeWhatTheKthGets();
    fewest();
    fewestNone();
    byLaw();
    gains();
    gainsOfACleverOne();
    gainsWithoutRoom();
    gainsFromTheEldest();
    swap();
    swapWhenOneIsAshore();
    bestAge();
    bestAgeOfSeveral();
    leagueOfWhom();
    leagueWhateverHisKind();
    leagueAsOneMan();
    leagueNoDearer();
    shaken();
    shakenOnItsOwn();
    shakenInLeastTerms();
    seedsHowMany();
    seedsAshoreAsNothing();
    seedsDraws();
    seedsFromTheOrderAsItIs();
    Due.end();
  }

  private static void alike() {
    Due.by("ALIKE: n (1 .. 60) CLEVER MEN with WEIGHT 1");
    EldestSays x = new EldestSays();
    Due.due("none", x.alike(0, 5, 0, true), Due.REFUSED + 4);
    Due.due("one", x.alike(1, 5, 0, true), 1);
    Due.due("one gets all", x.alike(1, 5, 0, false), 5);
    Due.due("sixty", x.alike(60, 99, 0, true), 1);
    Due.due("61", x.alike(61, 99, 0, true), Due.REFUSED + 6);
    Due.by("and c (0 .. 99) COINS");
    Due.due("-1 coins", x.alike(2, -1, 0, true), Due.REFUSED + 4);
    Due.due("no coins", x.alike(2, 0, 0, false), 0);
    Due.due("99 coins", x.alike(2, 99, 0, false), 99);
    Due.due("100 coins", x.alike(2, 100, 0, true), Due.REFUSED + 6);
    Due.due("the coins that are set do not count", x.set(0, 0), 10);
    Due.due("99 coins", x.alike(2, 99, 0, false), 99);
    Due.tell(x, "m499;m499;");
    Due.due("nor do the men", x.alike(2, 99, 0, false), 99);
  }

  private static void alikeAsTheyAre() {
    Due.by("by LAW, TIE, FIRST as they are");
    EldestSays x = new EldestSays();
    Due.due("half of two", x.alike(2, 5, 0, true), 1);
    x.set(1, 1);
    Due.due("more of two", x.alike(2, 5, 0, true), 0);
    Due.due("more of three", x.alike(3, 5, 0, true), 1);
    Due.due("more of five: two are bought", x.alike(5, 5, 0, false), 2);
    x.set(1, 2);
    Due.due("two thirds of three", x.alike(3, 5, 0, true), 1);
    Due.due("two thirds of five: three are bought for all", x.alike(5, 5, 0, false), 0);
    Due.due("two thirds of five with one coin less", x.alike(5, 4, 0, true), 0);
    x.set(2, 1);
    Due.due("two thirds of two, with tie", x.alike(2, 5, 0, true), 1);
    Due.due("all for the other one", x.alike(2, 5, 1, false), 5);
    x = new EldestSays();
    // Of four with one coin the men 1 and 2 ask for one, and one of them is needed.
    Due.due("the eldest first", x.alike(4, 1, 1, false), 1);
    Due.due("not the other", x.alike(4, 1, 2, false), 0);
    x.set(3, 1);
    Due.due("the youngest first", x.alike(4, 1, 2, false), 1);
    Due.due("not the other", x.alike(4, 1, 1, false), 0);
    for (int n = 1; n <= 60; n++) {
      alikeByHalfDue(n);
    }
  }

  /** With coins for all, every second one gets a coin, whoever is bought first. */
  private static void alikeByHalfDue(int n) {
    for (int first = 0; first <= 1; first++) {
      EldestSays x = new EldestSays();
      x.set(3, first);
      for (int k = 0; k < n; k++) {
        int due = k == 0 ? 99 - (n - 1) / 2 : k % 2 == 0 ? 1 : 0;
        Due.due("first " + first + ", men " + n + ", the " + k, x.alike(n, 99, k, false), due);
      }
    }
  }

  private static void alikeWhetherTheEldestCarries() {
    Due.by("whether the eldest carries it (1, 0)");
    EldestSays x = new EldestSays();
    // Twice the coins and two men are carried, and then at each power of two more.
    for (int n = 1; n <= 60; n++) {
      boolean carried = n <= 8 || n == 10 || n == 14 || n == 22 || n == 38;
      Due.due("three coins, men " + n, x.alike(n, 3, 0, true), carried ? 1 : 0);
      Due.due("whichever is asked for, men " + n, x.alike(n, 3, n - 1, true), carried ? 1 : 0);
    }
  }

  private static void alikeWhatTheKthGets() {
    Due.by("what the k-th (0 the eldest) gets from the eldest on (-1 ASHORE)");
    EldestSays x = new EldestSays();
    int[] five = {8, 0, 1, 0, 1};
    for (int k = 0; k < 5; k++) {
      Due.due("five, the " + k, x.alike(5, 10, k, false), five[k]);
    }
    Due.due("a fifth behind the eldest", x.alike(5, 10, 5, false), Due.REFUSED + 6);
    Due.due("one before the eldest", x.alike(5, 10, -1, false), Due.REFUSED + 4);
    // Without coins only a power of two carries it: of seven three are ashore.
    int[] seven = {-1, -1, -1, 0, 0, 0, 0};
    for (int k = 0; k < 7; k++) {
      Due.due("seven without coins, the " + k, x.alike(7, 0, k, false), seven[k]);
    }
    Due.due("the last of sixty", x.alike(60, 99, 59, false), 0);
    Due.due("the last but one of sixty", x.alike(60, 99, 58, false), 1);
  }

  private static void fewest() {
    Due.by("FEWEST: the least COINS (0 .. 99) with which nobody is ashore from THE SAYER on");
    Due.due("none are needed", Due.beach("m001;m001;").fewest(), 0);
    Due.due("one", Due.beach("m001;m001;m001;").fewest(), 1);
    EldestSays x = Due.beach("m301;m001;l110;");
    Due.due("ten are too many for the fair one", x.carries(0), 0);
    Due.due("the least is none", x.fewest(), 0);
    x = Due.beach("m574;m599;m395;m051;m592;m591;m593;l200;");
    Due.due("all that there can be", x.fewest(), 99);
    Due.due("coins stay", x.set(0, 98), 10);
    Due.due("98 are too few", x.carries(0), 0);
    x.set(0, 99);
    Due.due("99 are enough", x.carries(0), 1);
    x = Due.beach("m001;m001;m001;l200;");
    Due.due("the eldest has one for nothing", x.fewest(), 0);
    Due.putAshore(x);
    Due.due("the next one never", x.fewest(), -9);
    Due.putAshore(x);
    Due.due("the last always", x.fewest(), 0);
  }

  private static void fewestNone() {
    Due.by("from THE SAYER on; -9. BY LAW");
    Due.due("two by more", Due.beach("m001;m001;l100;").fewest(), -9);
    EldestSays x = Due.beach("m401;m411;l100;");
    Due.due("a fool who gives nothing", x.fewest(), -9);
    Due.refusalsDue(x, 0, 0, 0, 0, 0);
  }

  private static void byLaw() {
    Due.by("BY LAW: what j GETS from THE SAYER by another LAW and TIE");
    String men = "m002;m001;m121;m431;m511;";
    EldestSays x = Due.beach(men);
    for (int law = 0; law <= 2; law++) {
      for (int tie = 0; tie <= 1; tie++) {
        EldestSays y = Due.beach(men + "l" + law + tie + "0;");
        for (int j = 0; j < 5; j++) {
          Due.due("law " + law + ", tie " + tie + ", man " + j, x.byLaw(law, tie, j), y.gets(0, j));
        }
      }
    }
    Due.due("the law stays", x.set(1, 0), 0);
    Due.due("the tie stays", x.set(2, 0), 0);
    Due.putAshore(x);
    EldestSays y = Due.beach(men + "l110;");
    for (int j = 1; j < 5; j++) {
      Due.due("from the sayer, man " + j, x.byLaw(1, 1, j), y.gets(1, j));
    }
    Due.due("older than the sayer", x.byLaw(1, 1, 0), Due.REFUSED + 1);
    x = Due.beach("m001;m001;m001;m001;l001;c1;");
    Due.due("whom one buys first stays as it is", x.byLaw(0, 0, 2), 1);
  }

  private static void gains() {
    Due.by("GAINS: MEN (bits) who would get more from the eldest on");
    Due.due("two", Due.beach("m001;m001;").gains(), 2);
    Due.due("three", Due.beach("m001;m001;m001;").gains(), 2);
    Due.due("no longer ashore is more", Due.beach("m001;m001;l100;").gains(), 1);
    Due.due("as much is not more", Due.beach("m001;m001;c0;l110;").gains(), 0);
    Due.due("seven", Due.beach("m001;".repeat(7)).gains(), 42);
    EldestSays x = Due.beach("m001;m001;m001;");
    Due.due("gains", x.gains(), 2);
    Due.due("the men stay", x.count(0), 3);
    Due.due("what they get stays", x.gets(0, 0), 9);
  }

  private static void gainsOfACleverOne() {
    Due.by("if one CLEVER man more (WEIGHT 1) were the eldest of all");
    Due.due("a fair one would give to man 2 as well", Due.beach("m001;m001;m001;").gains(), 2);
    Due.due("a weight of 2 would carry it with man 0", Due.beach("m002;m003;l100;").gains(), 0);
    Due.due("a weight of 1 carries it with man 0", Due.beach("m003;m003;l100;").gains(), 1);
    EldestSays x = Due.beach("m001;m001;");
    Due.due("were he told as the eldest", Due.beach("m001;m001;m001;").gets(0, 2), 1);
    Due.due("man 1 is man 2 then", x.gains(), 2);
    String[] beaches = {
      "m301;", "m001;m301;", "m001;m431;", "m001;m661;m451;", "m432;m001;m203;m614;",
      "m001;m331;m221;m551;m441;m661;m301;",
    };
    for (String men : beaches) {
      for (int law = 0; law <= 2; law++) {
        String text = men + "l" + law + "10;";
        Due.due("gains of " + text, Due.beach(text).gains(), gainers(text));
      }
    }
  }

  /** By telling the man more as the first of a beach of its own. */
  private static int gainers(String text) {
    EldestSays without = Due.beach(text);
    EldestSays with = Due.beach("m001;" + text);
    int bits = 0;
    for (int j = 0; j < without.count(0); j++) {
      bits |= with.gets(0, j + 1) > without.gets(0, j) ? 1 << j : 0;
    }
    return bits;
  }

  private static void gainsWithoutRoom() {
    Due.by("(0, if there is no room");
    EldestSays x = Due.beach("m001;".repeat(7));
    Due.due("an eighth has room", x.gains(), 42);
    Due.tell(x, "m001;");
    Due.due("a ninth has not", x.gains(), 0);
    Due.due("without men", new EldestSays().gains(), 0);
    Due.refusalsDue(x, 0, 0, 0, 0, 0);
  }

  private static void gainsFromTheEldest() {
    Due.by("THE SAYER is 0 in both then");
    EldestSays x = Due.beach("m001;m001;l100;");
    Due.due("at first", x.gains(), 1);
    Due.due("one ashore", x.says(), 0);
    Due.due("then too", x.gains(), 1);
    Due.due("done", x.says(), 1);
    Due.due("and then", x.gains(), 1);
    Due.due("the sayer stays", x.count(1), 1);
    Due.due("done stays", x.count(2), 1);
  }

  private static void swap() {
    Due.by("SWAP: two MEN change places (KIND, FIGURE, WEIGHT");
    EldestSays x = Due.beach("m123;m234;m345;");
    Due.rowDue("before", Due.shares(x, 0), Due.shares(Due.beach("m123;m234;m345;"), 0));
    Due.due("first and last", x.swap(2, 0), 1);
    int[] due = {3, 4, 5, 2, 3, 4, 1, 2, 3};
    for (int k = 0; k < due.length; k++) {
      Due.due("man(" + k / 3 + ", " + k % 3 + ")", x.man(k / 3, k % 3), due[k]);
    }
    EldestSays y = Due.beach("m345;m234;m123;");
    for (int i = 0; i < 3; i++) {
      Due.rowDue("all is as if told so, " + i, Due.shares(x, i), Due.shares(y, i));
    }
    Due.due("one twice", x.swap(1, 1), -1);
    Due.due("nobody", x.swap(1, 3), -1);
    Due.due("nobody", x.swap(-1, 1), -1);
  }

  private static void swapWhenOneIsAshore() {
    Due.by("nobody is ashore yet, else -3");
    EldestSays x = Due.beach("m001;m101;m201;");
    Due.due("yet", x.swap(1, 2), 1);
    Due.putAshore(x);
    Due.due("one is ashore", x.swap(1, 2), -3);
    Due.due("also with him", x.swap(0, 2), -3);
    Due.due("kinds stay", x.man(1, 0), 2);
    Due.refusalsDue(x, 0, 0, 2, 0, 0);
  }

  private static void bestAge() {
    Due.by("BEST AGE of a man: the place to which he should be put (others stay in their order) so"
        + " that he GETS most from the eldest on");
    String[][] beaches = {
      {"m432;", "m001;", "m203;", "m614;"}, {"m001;", "m491;", "m301;", "m559;"},
      {"m301;", "m432;", "m121;"}, {"m001;", "m431;", "m001;", "m661;", "m202;"}, {"m001;"},
      {"m001;", "m111;", "m221;", "m331;", "m441;", "m551;", "m661;", "m309;"},
    };
    for (String[] men : beaches) {
      for (int law = 0; law <= 2; law++) {
        EldestSays x = Due.beach(String.join("", men) + "l" + law + "00;");
        for (int man = 0; man < men.length; man++) {
          Due.due(String.join("", men) + " law " + law + ", man " + man,
              x.bestAge(man), bestPlace(men, man, law));
        }
        Due.due("the order stays", x.man(0, 0), men[0].charAt(1) - '0');
      }
    }
  }

  /** By telling each order as a beach of its own. */
  private static int bestPlace(String[] men, int man, int law) {
    int best = 0;
    int most = -2;
    for (int place = 0; place < men.length; place++) {
      StringBuilder text = new StringBuilder();
      for (int j = 0; j < men.length; j++) {
        text.append(j == man ? "" : men[j]);
      }
      text.insert(place * 5, men[man]);
      int gets = Due.beach(text + "l" + law + "00;").gets(0, place);
      best = gets > most ? place : best;
      most = Math.max(most, gets);
    }
    return best;
  }

  private static void bestAgeOfSeveral() {
    Due.by("of several the least");
    Due.due("nothing anywhere", Due.beach("m301;m301;m301;c0;").bestAge(2), 0);
    Due.due("nothing anywhere, two", Due.beach("m001;m001;c0;").bestAge(1), 0);
    // First he gives nine to the fair one; behind him he gets three on either place.
    EldestSays x = Due.beach("m491;m309;m001;");
    Due.due("the second and the third place are best", x.bestAge(0), 1);
    Due.due("alone", Due.beach("m401;").bestAge(0), 0);
    Due.due("without men", new EldestSays().bestAge(0), -1);
  }

  private static void leagueOfWhom() {
    Due.by("LEAGUE of MEN (bits, two at least, all younger than THE SAYER)");
    EldestSays x = Due.beach("m001;m001;m001;m001;");
    int[] fewerThanTwo = {0, 2, 4, 8};
    for (int men : fewerThanTwo) {
      Due.due("league(" + men + ")", x.league(men), -1);
    }
    int[] withTheSayer = {1, 3, 7, 15};
    for (int men : withTheSayer) {
      Due.due("league(" + men + ")", x.league(men), -1);
    }
    int[] withNoMan = {16, 18, 22, 6 + 256, 6 + (1 << 30), -1, -2, Integer.MIN_VALUE};
    for (int men : withNoMan) {
      Due.due("league(" + men + ")", x.league(men), -1);
    }
    int[] right = {6, 10, 12, 14};
    for (int men : right) {
      Due.due("league(" + men + ")", x.league(men) >= 0 ? 1 : 0, 1);
    }
    Due.putAshore(x);
    Due.due("the sayer is 1 now", x.league(6), -1);
    Due.due("one who is ashore", x.league(13), -1);
    Due.due("two younger ones, who are too dear", x.league(12), 0);
    Due.refusalsDue(x, 18, 0, 0, 0, 0);
  }

  private static void leagueWhateverHisKind() {
    Due.by("whether THE SAYER (whatever his KIND) could have it CARRIED by buying");
    for (int kind = 0; kind <= 6; kind++) {
      EldestSays x = Due.beach("m" + kind + "01;m421;m431;m491;c5;");
      Due.due("kind " + kind + " could", x.league(6), 1);
      Due.due("kind " + kind + " could not", Due.beach("m" + kind + "01;m491;m491;c5;").league(6), 0);
    }
  }

  private static void leagueAsOneMan() {
    Due.by("if these vote as one man whose PRICE and WEIGHT are all theirs together");
    EldestSays x = Due.beach("m001;m411;m441;m491;c1;");
    Due.due("alone man 1 is enough", x.bought(0), 2);
    Due.due("with man 2 he costs five", x.league(6), 0);
    x.set(0, 5);
    Due.due("which five pay for", x.league(6), 1);
    x = Due.beach("m001;m411;m411;m491;m491;c2;");
    Due.due("their weights together are just enough", x.league(6), 1);
    x = Due.beach("m001;m411;m411;m491;m493;c2;");
    Due.due("and too few by one", x.league(6), 0);
    x = Due.beach("m001;m411;m422;m433;l200;c3;");
    Due.due("their weights together are too few", x.league(6), 0);
    x.set(0, 6);
    Due.due("with man 3 they are enough", x.league(6), 1);
    x = Due.beach("m001;m401;m401;m499;c0;");
    Due.due("free ones together are too light", x.league(6), 0);
    x = Due.beach("m001;m401;m401;m491;c0;");
    Due.due("free ones together vote yes for nothing", x.league(6), 1);
    x = Due.beach("m001;m401;m491;m401;l100;c8;");
    Due.due("a free one in a dear league is not free", x.league(6), 0);
    Due.due("he is, beside it", x.league(12), 0);
    x.set(1, 0);
    Due.due("and enough by half", x.league(12), 1);
  }

  private static void leagueNoDearer() {
    Due.by("whether some set of younger MEN (these as one) is CARRIED, if it is bought, and no"
        + " dearer than COINS: 1, 0");
    EldestSays x = Due.beach("m001;m431;m441;c7;");
    Due.due("just as dear", x.league(6), 1);
    x.set(0, 6);
    Due.due("dearer by one", x.league(6), 0);
    x = Due.beach("m001;m491;m491;m421;m491;m491;l000;c2;");
    Due.due("another set, too light", x.league(6), 0);
    x = Due.beach("m002;m491;m491;m421;c2;");
    Due.due("another set than the league", x.league(6), 1);
    x = Due.beach("m003;m491;m491;m491;c0;");
    Due.due("nobody is needed", x.league(14), 1);
    x = Due.beach("m001;".repeat(8));
    Due.due("all seven are too dear", x.league(254), 0);
  }

  private static void fractionDue(String name, EldestSays x, long above, long below) {
    Due.due(name + ", above the line", x.shaken(0), above);
    Due.due(name + ", below the line", x.shaken(1), below);
  }

  private static void shaken() {
    Due.by("SHAKEN: how likely it is that what THE SAYER SAYS is CARRIED");
    EldestSays x = Due.beach("m401;m491;m401;l100;");
    fractionDue("man 2 is free: both must not turn to no", x, 91, 100);
    x = Due.beach("m301;m491;m491;l100;");
    fractionDue("what the fair one says: one of two must turn", x, 19, 100);
    Due.putAshore(x);
    fractionDue("what the next one says", x, 9, 10);
    Due.putAshore(x);
    fractionDue("what the last one says", x, 1, 1);
  }

  private static void shakenOnItsOwn() {
    Due.by("if each younger man's vote is turned by SHAKE hundredths, on its own (his own is not)");
    EldestSays x = Due.beach("m409;m491;m491;m491;m491;m491;m491;m491;");
    fractionDue("his own vote is enough, and is not turned", x, 1, 1);
    x = Due.beach("m409;".repeat(8));
    x.set(4, 0);
    fractionDue("eight of the greatest weight", x, 1, 1);
    x = Due.beach("m401;m491;m491;m491;l100;");
    x.set(4, 50);
    fractionDue("two of three by a coin each", x, 1, 2);
    x.set(4, 0);
    fractionDue("nobody turns", x, 0, 1);
    x.set(4, 99);
    // 99 * 99 * 99 and 3 * 99 * 99 of 1000000, halved.
    fractionDue("nearly all turn", x, 499851, 500000);
    x = Due.beach("m401;m492;m491;m491;l100;");
    x.set(4, 20);
    // The heavy one is enough, and so are the two light ones: 200 and 800 * 4 / 100 of 1000.
    fractionDue("by weights", x, 29, 125);
  }

  private static void shakenInLeastTerms() {
    Due.by("a fraction in least terms");
    EldestSays x = Due.beach("m401;m491;l100;");
    fractionDue("10 of 100", x, 1, 10);
    x.set(4, 25);
    fractionDue("25 of 100", x, 1, 4);
    x.set(4, 33);
    fractionDue("33 of 100", x, 33, 100);
    x.set(4, 0);
    fractionDue("none", x, 0, 1);
    x = Due.beach("m401;m401;l100;");
    x.set(4, 0);
    fractionDue("all", x, 1, 1);
    x.set(4, 99);
    fractionDue("1 of 100", x, 1, 100);
    x = Due.beach("m401;" + "m491;".repeat(7) + "l200;");
    x.set(4, 1);
    // Five of seven at least: 21 * 9801 and 7 * 99 and 1 of 100 to the 7th, by 5.
    fractionDue("seven", x, 41303L, 20000000000000L);
  }

  private static void seedsHowMany() {
    Due.by("SEEDS: n (1 .. 30) evenings with a seed z");
    EldestSays x = Due.beach("m001;c99;");
    Due.due("-1", x.seeds(0, -1, 1), -4);
    Due.due("none", x.seeds(0, 0, 1), -4);
    Due.due("one", x.seeds(0, 1, 1), 99);
    Due.due("thirty", x.seeds(0, 30, 1), 2970);
    Due.due("31", x.seeds(0, 31, 1), -6);
    int[] seeds = {0, -1, Integer.MIN_VALUE, Integer.MAX_VALUE};
    for (int z : seeds) {
      Due.due("any seed will do: " + z, x.seeds(0, 2, z), 198);
    }
    Due.refusalsDue(x, 0, 0, 0, 2, 1);
  }

  private static void seedsAshoreAsNothing() {
    Due.by("all that man m GETS, ASHORE as 0");
    EldestSays x = Due.beach("m001;m001;l100;");
    // Who sits first is ashore, and the other gets all ten.
    int[] firsts = new int[2];
    for (int z = 0; z < 20; z++) {
      int one = x.seeds(0, 1, z);
      Due.due("the two together", one + x.seeds(1, 1, z), 10);
      Due.due("all or nothing", one == 0 || one == 10 ? 1 : 0, 1);
      firsts[one / 10]++;
    }
    Due.due("each is ashore at times", firsts[0] > 0 && firsts[1] > 0 ? 1 : 0, 1);
    Due.by("in which all MEN (nobody ashore) sit in an order that is drawn");
    int before = x.seeds(0, 30, 7);
    Due.due("one goes ashore", x.says(), 0);
    Due.due("he sits there too", x.seeds(0, 30, 7), before);
    Due.due("done", x.says(), 1);
    Due.due("and then", x.seeds(0, 30, 7), before);
    Due.due("the sayer stays", x.count(1), 1);
  }

  private static void seedsDraws() {
    Due.by("for k from the last place down to 1 the men on places k and a DRAW below k and 1 change"
        + " places");
    Due.by("z becomes z times 1103515245 and 12345 (an int); a DRAW below n is (z without its sign's"
        + " bit by 65536, cut) modulo n");
    String[][] beaches = {
      {"m001;", "m431;"}, {"m001;", "m301;", "m661;"}, {"m431;", "m001;", "m202;", "m614;", "m593;"},
      {"m001;", "m111;", "m221;", "m331;", "m441;", "m551;", "m661;", "m009;"},
    };
    int[] seeds = {0, 1, -1, 12345, 1 << 30, Integer.MIN_VALUE, Integer.MAX_VALUE};
    for (String[] men : beaches) {
      for (int z : seeds) {
        EldestSays x = Due.beach(String.join("", men));
        for (int man = 0; man < men.length; man++) {
          Due.due("men " + men.length + ", seed " + z + ", man " + man,
              x.seeds(man, 5, z), drawn(men, man, 5, z));
        }
      }
    }
  }

  private static void seedsFromTheOrderAsItIs() {
    Due.by("(Each evening from the order as it is.)");
    String[] men = {"m001;", "m301;", "m661;"};
    EldestSays x = Due.beach(String.join("", men));
    for (int n = 1; n <= 30; n++) {
      Due.due("evenings " + n, x.seeds(1, n, 99), drawn(men, 1, n, 99));
    }
    Due.due("the order stays", x.man(1, 0), 3);
  }

  /** By telling each drawn order as a beach of its own. */
  private static int drawn(String[] men, int man, int evenings, int seed) {
    BigInteger z = BigInteger.valueOf(seed);
    int sum = 0;
    for (int evening = 0; evening < evenings; evening++) {
      String[] order = men.clone();
      int place = man;
      for (int k = men.length - 1; k >= 1; k--) {
        z = z.multiply(BigInteger.valueOf(1103515245)).add(BigInteger.valueOf(12345));
        int draw = z.mod(BigInteger.ONE.shiftLeft(31)).shiftRight(16).intValue() % (k + 1);
        String here = order[k];
        order[k] = order[draw];
        order[draw] = here;
        place = place == k ? draw : place == draw ? k : place;
      }
      sum += Math.max(0, Due.beach(String.join("", order)).gets(0, place));
    }
    return sum;
  }
}
