/** Terms, I: what each has else, prices, and what each says. Each method keeps one sentence. */
public final class PriceSentencesTest {
  private static final int CLEVER = 0;
  private static final int COMPANY = 1;
  private static final int ENVIOUS = 2;
  private static final int FAIR = 3;
  private static final int FOOL = 4;
  private static final int SPITEFUL = 5;
  private static final int MEEK = 6;
  private static final int[] BUYERS = {CLEVER, COMPANY, ENVIOUS, SPITEFUL};

  public static void main(String[] args) {
    whatHeHasElse();
    ashoreCountsAsMinusOne();
    leastCoins();
    alsoForMore();
    clever();
    company();
    envious();
    fair();
    fool();
    spiteful();
    meek();
    allTogether();
    whoBuys();
    theCheapest();
    withoutBeingBought();
    eldestFirst();
    youngestFirst();
    dearerThanCoins();
    leftOver();
    fairSays();
    foolSays();
    meekSays();
    Due.end();
  }

  private static void whatHeHasElse() {
    Due.by("what he would get, if i were ashore (by what all would say and vote then");
    EldestSays x = Due.beach("m001;m431;m001;");
    Due.due("the fool after him would give three", x.price(0, 2), 4);
    x.set(1, 1);
    Due.due("by more the fool would be ashore too", x.price(0, 2), 11);
    x = Due.beach("m001;m301;m001;m001;");
    Due.due("the fair one would keep four", x.gets(1, 1), 4);
    Due.due("so a fair one asks for four", x.price(0, 1), 4);
    Due.due("and who gets three for four", x.price(0, 3), 4);
  }

  private static void ashoreCountsAsMinusOne() {
    Due.by("ASHORE counts as -1");
    EldestSays x = Due.beach("m001;m001;m001;l100;");
    Due.due("man 1 would be ashore", x.gets(1, 1), -1);
    Due.due("and one more than that is nothing", x.price(0, 1), 0);
    Due.due("he votes yes for nothing", x.votes(0), 3);
  }

  /** The price of the younger of two, who has all coins else. */
  private static void priceDue(int kind, int figure, int tie, int otherwise, int due) {
    EldestSays x = Due.beach("m001;m" + kind + figure + "1;l0" + tie + "0;c" + otherwise + ";");
    Due.due("else he has", x.gets(1, 1), otherwise);
    String name = "price of kind " + kind + ", figure " + figure + ", tie " + tie + ", else ";
    Due.due(name + otherwise, x.price(0, 1), due);
  }

  /** The price of one whom the heavy man behind him would put ashore. */
  private static void ashoreDue(int kind, int figure, int tie, int due) {
    EldestSays x = Due.beach("m001;m" + kind + figure + "1;m593;l1" + tie + "0;");
    Due.due("else he is ashore", x.gets(1, 1), -1);
    String name = "price of kind " + kind + ", figure " + figure + ", tie " + tie + ", ashore";
    Due.due(name, x.price(0, 1), due);
  }

  private static void leastCoins() {
    Due.by("the least COINS (0 at least) for which he votes yes");
    for (int kind = 0; kind <= 6; kind++) {
      for (int tie = 0; tie <= 1; tie++) {
        EldestSays x = Due.beach("m001;m" + kind + "01;m593;l1" + tie + "0;");
        Due.due("kind " + kind + ", else ashore", x.price(0, 1), 0);
      }
    }
    EldestSays x = Due.beach("m001;m461;");
    Due.tellRow(x, 5, 5);
    Due.due("five are too few", x.judge(1), -9);
    Due.tellRow(x, 4, 6);
    Due.due("six are enough", x.judge(3), -9);
  }

  private static void alsoForMore() {
    Due.by("also for more: CLEVER");
    for (int kind = 0; kind <= 6; kind++) {
      EldestSays x = Due.beach("m001;m001;m" + kind + "31;");
      int price = x.price(0, 2);
      for (int coins = 0; coins <= 10; coins++) {
        Due.tellRow(x, 10 - coins, 0, coins);
        String name = "kind " + kind + ", " + coins + " for " + price;
        Due.due(name + ", he votes yes", x.judge(5), coins >= price ? -9 : 3);
        Due.due(name + ", he votes no", x.judge(1), coins >= price ? 3 : -9);
      }
    }
  }

  private static void clever() {
    Due.by("CLEVER: ELSE and 1, or, with TIE yes, ELSE (0 at least)");
    int[] otherwise = {0, 1, 50, 99};
    for (int e : otherwise) {
      priceDue(CLEVER, 5, 0, e, e + 1);
      priceDue(CLEVER, 5, 1, e, e);
    }
    ashoreDue(CLEVER, 5, 0, 0);
    ashoreDue(CLEVER, 5, 1, 0);
  }

  private static void company() {
    Due.by("COMPANY: ELSE (0 at least) whatever TIE is");
    for (int tie = 0; tie <= 1; tie++) {
      priceDue(COMPANY, 5, tie, 0, 0);
      priceDue(COMPANY, 5, tie, 1, 1);
      priceDue(COMPANY, 5, tie, 99, 99);
      ashoreDue(COMPANY, 5, tie, 0);
    }
  }

  private static void envious() {
    Due.by("ENVIOUS: as a CLEVER, and one more, if ELSE is not below 0");
    priceDue(ENVIOUS, 5, 0, 0, 2);
    priceDue(ENVIOUS, 5, 1, 0, 1);
    priceDue(ENVIOUS, 5, 0, 99, 101);
    priceDue(ENVIOUS, 5, 1, 99, 100);
    ashoreDue(ENVIOUS, 5, 0, 0);
    ashoreDue(ENVIOUS, 5, 1, 0);
  }

  private static void fair() {
    Due.by("FAIR as a COMPANY");
    for (int tie = 0; tie <= 1; tie++) {
      priceDue(FAIR, 5, tie, 0, 0);
      priceDue(FAIR, 5, tie, 1, 1);
      priceDue(FAIR, 5, tie, 99, 99);
      ashoreDue(FAIR, 5, tie, 0);
    }
  }

  private static void fool() {
    Due.by("FOOL: his FIGURE.");
    for (int tie = 0; tie <= 1; tie++) {
      for (int figure = 0; figure <= 9; figure++) {
        priceDue(FOOL, figure, tie, 0, figure);
        priceDue(FOOL, figure, tie, 99, figure);
        ashoreDue(FOOL, figure, tie, figure);
      }
    }
  }

  private static void spiteful() {
    Due.by("SPITEFUL: as an ENVIOUS, and his FIGURE more");
    for (int figure = 0; figure <= 9; figure++) {
      priceDue(SPITEFUL, figure, 0, 0, 2 + figure);
      priceDue(SPITEFUL, figure, 1, 0, 1 + figure);
      priceDue(SPITEFUL, figure, 0, 99, 101 + figure);
      priceDue(SPITEFUL, figure, 1, 99, 100 + figure);
      ashoreDue(SPITEFUL, figure, 0, figure);
      ashoreDue(SPITEFUL, figure, 1, figure);
    }
  }

  private static void meek() {
    Due.by("MEEK: half of a FOOL's, cut");
    int[] halves = {0, 0, 1, 1, 2, 2, 3, 3, 4, 4};
    for (int tie = 0; tie <= 1; tie++) {
      for (int figure = 0; figure <= 9; figure++) {
        priceDue(MEEK, figure, tie, 0, halves[figure]);
        priceDue(MEEK, figure, tie, 99, halves[figure]);
        ashoreDue(MEEK, figure, tie, halves[figure]);
      }
    }
  }

  private static void allTogether() {
    Due.by("What i SAYS (COINS for each who is left, all together COINS)");
    int[] coins = {0, 1, 2, 5, 10, 50, 99};
    for (int kind = 0; kind <= 6; kind++) {
      EldestSays x = Due.beach("m" + kind + "32;m" + kind + "71;m421;m493;m011;");
      for (int c : coins) {
        x.set(0, c);
        for (int i = 0; i < 5; i++) {
          int sum = 0;
          int below = 0;
          for (int part : Due.offer(x, i)) {
            sum += part;
            below += part < 0 ? 1 : 0;
          }
          Due.due("all that man " + i + " of kind " + kind + " says", sum, c);
          Due.due("nobody pays", below, 0);
        }
      }
    }
  }

  private static void whoBuys() {
    Due.by("CLEVER, COMPANY, ENVIOUS, SPITEFUL: of all sets of younger MEN who get their PRICES,"
        + " all others who are younger nothing");
    for (int kind : BUYERS) {
      EldestSays x = Due.beach("m" + kind + "91;m471;m441;m441;m491;");
      Due.rowDue("kind " + kind, Due.offer(x, 0), 2, 0, 4, 4, 0);
      Due.due("kind " + kind, x.bought(0), 12);
    }
  }

  private static void theCheapest() {
    Due.by("(those whose PRICE is 0 vote yes without being bought), the cheapest");
    EldestSays x = Due.beach("m001;m472;m431;m431;");
    Due.due("two for six, not one for seven", x.bought(0), 12);
    Due.rowDue("offer", Due.offer(x, 0), 4, 0, 3, 3);
    x = Due.beach("m001;m452;m431;m431;");
    Due.due("one for five, not two for six", x.bought(0), 2);
    x = Due.beach("m002;m411;m411;");
    Due.due("the cheapest is nobody, when his own weight is enough", x.bought(0), 0);
    x = Due.beach("m001;m411;m421;m491;l200;c99;");
    Due.due("no more than are needed", x.bought(0), 6);
  }

  private static void withoutBeingBought() {
    Due.by("those whose PRICE is 0 vote yes without being bought");
    EldestSays x = Due.beach("m001;m401;m491;c0;");
    Due.due("carried without coins", x.carries(0), 1);
    Due.due("votes", x.votes(0), 3);
    Due.rowDue("offer", Due.offer(x, 0), 0, 0, 0);
    x = Due.beach("m001;m404;m499;c3;");
    Due.due("they vote yes also when the set is too dear", x.votes(0), 3);
    Due.due("which it is", x.bought(0), -9);
    x = Due.beach("m491;m401;m499;c3;");
    Due.due("and for one who does not buy", x.votes(0), 3);
    x = Due.beach("m001;m611;m491;c0;");
    Due.due("half of one is nothing", x.carries(0), 1);
  }

  private static void eldestFirst() {
    Due.by("that which has the eldest MEN (compared man by man from the eldest on: who has him is"
        + " ahead)");
    Due.due("one of three", Due.beach("m001;m421;m421;m421;").bought(0), 2);
    Due.due("two of four", Due.beach("m001;m421;m421;m421;m421;").bought(0), 6);
    Due.due("the one, not the two", Due.beach("m001;m433;m422;m411;l100;").bought(0), 2);
    Due.due("the two, not the one", Due.beach("m001;m411;m422;m433;l100;").bought(0), 6);
    Due.due("the other place", Due.beach("m001;m421;m421;m431;m411;").bought(0), 18);
    Due.due("the eldest before more of the others",
        Due.beach("m001;m433;m411;m411;m411;l100;").bought(0), 2);
    Due.due("who costs nothing is in it", Due.beach("m001;m421;m401;m421;").bought(0), 4);
    Due.due("though he is not needed", Due.beach("m002;m401;m411;").bought(0), 2);
  }

  private static void youngestFirst() {
    Due.by("the youngest: likewise from the youngest on");
    Due.due("one of three", Due.beach("m001;m421;m421;m421;l001;").bought(0), 8);
    Due.due("two of four", Due.beach("m001;m421;m421;m421;m421;l001;").bought(0), 24);
    Due.due("the two, not the one", Due.beach("m001;m433;m422;m411;l101;").bought(0), 12);
    Due.due("the one, not the two", Due.beach("m001;m411;m422;m433;l101;").bought(0), 8);
    Due.due("the other place", Due.beach("m001;m421;m421;m431;m411;l001;").bought(0), 20);
    Due.due("the youngest before more of the others",
        Due.beach("m001;m411;m411;m411;m433;l101;").bought(0), 16);
    Due.due("who costs nothing is in it", Due.beach("m001;m421;m401;m421;l001;").bought(0), 4);
    Due.due("though he is not needed", Due.beach("m002;m401;m411;l001;").bought(0), 2);
  }

  private static void dearerThanCoins() {
    Due.by("if the cheapest is dearer than COINS (or there is none): nobody gets anything, he"
        + " keeps all");
    for (int kind : BUYERS) {
      EldestSays x = Due.beach("m" + kind + "01;m472;m431;m431;c6;");
      Due.due("just as dear", x.bought(0), 12);
      Due.rowDue("just as dear", Due.offer(x, 0), 0, 0, 3, 3);
      Due.due("carried", x.carries(0), 1);
      x.set(0, 5);
      Due.due("dearer by one", x.bought(0), -9);
      Due.rowDue("dearer by one", Due.offer(x, 0), 5, 0, 0, 0);
      Due.due("only he votes yes", x.votes(0), 1);
      Due.due("not carried", x.carries(0), 0);
    }
  }

  private static void leftOver() {
    Due.by("What is left over he keeps");
    EldestSays x = Due.beach("m001;m431;m491;");
    int[] coins = {3, 4, 10, 99};
    for (int c : coins) {
      x.set(0, c);
      Due.rowDue("of " + c, Due.offer(x, 0), c - 3, 3, 0);
    }
  }

  private static void fairSays() {
    Due.by("FAIR: each who is left COINS by how many are left, cut; the rest he keeps");
    EldestSays x = Due.beach("m391;m001;m001;");
    int[][] offers = {{0, 0, 0}, {1, 0, 0}, {2, 0, 0}, {1, 1, 1}, {2, 1, 1}, {3, 1, 1}, {2, 2, 2}};
    for (int c = 0; c < offers.length; c++) {
      x.set(0, c);
      Due.rowDue("of " + c, Due.offer(x, 0), offers[c]);
    }
    x.set(0, 99);
    Due.rowDue("of 99", Due.offer(x, 0), 33, 33, 33);
    x = Due.beach("m001;m001;m301;m001;m001;c8;");
    Due.rowDue("only who is left counts", Due.offer(x, 2), 4, 2, 2);
    x = Due.beach("m001;m301;c7;");
    Due.rowDue("alone", Due.offer(x, 1), 7);
  }

  private static void foolSays() {
    Due.by("FOOL: FIGURE to each younger man from the eldest on, as long as there are so many; the"
        + " rest he keeps");
    EldestSays x = Due.beach("m431;m001;m001;m001;");
    int[][] offers = {
      {0, 0, 0, 0}, {1, 0, 0, 0}, {2, 0, 0, 0}, {0, 3, 0, 0}, {1, 3, 0, 0}, {2, 3, 0, 0},
      {0, 3, 3, 0}, {1, 3, 3, 0}, {2, 3, 3, 0}, {0, 3, 3, 3}, {1, 3, 3, 3},
    };
    for (int c = 0; c < offers.length; c++) {
      x.set(0, c);
      Due.rowDue("of " + c, Due.offer(x, 0), offers[c]);
    }
    Due.rowDue("a figure of 0", Due.offer(Due.beach("m401;m001;m001;"), 0), 10, 0, 0);
    Due.rowDue("alone", Due.offer(Due.beach("m431;"), 0), 10);
  }

  private static void meekSays() {
    Due.by("MEEK: as a FOOL, but from the youngest on");
    EldestSays x = Due.beach("m631;m001;m001;m001;");
    int[][] offers = {
      {0, 0, 0, 0}, {1, 0, 0, 0}, {2, 0, 0, 0}, {0, 0, 0, 3}, {1, 0, 0, 3}, {2, 0, 0, 3},
      {0, 0, 3, 3}, {1, 0, 3, 3}, {2, 0, 3, 3}, {0, 3, 3, 3}, {1, 3, 3, 3},
    };
    for (int c = 0; c < offers.length; c++) {
      x.set(0, c);
      Due.rowDue("of " + c, Due.offer(x, 0), offers[c]);
    }
    Due.rowDue("a figure of 0", Due.offer(Due.beach("m601;m001;m001;"), 0), 10, 0, 0);
    Due.rowDue("alone", Due.offer(Due.beach("m631;"), 0), 10);
  }
}
