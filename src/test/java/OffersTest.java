/** Promises 6 to 12: offered, price, votes, carries, ends, gets, bought. */
public final class OffersTest {
  public static void main(String[] args) {
    cleverByHalf();
    cleverByMore();
    pricesOfKinds();
    pricesOfThoseElseAshore();
    laws();
    whomOneBuysFirst();
    freeVotes();
    fairSays();
    foolAndMeekSay();
    refusals();
    Due.end();
  }

  private static void cleverByHalf() {
    EldestSays x = Due.beach("m001;m001;m001;");
    Due.rowDue("half: offer of 0", Due.offer(x, 0), 9, 0, 1);
    Due.rowDue("half: offer of 1", Due.offer(x, 1), 10, 0);
    Due.rowDue("half: offer of 2", Due.offer(x, 2), 10);
    Due.due("half: price(0, 1)", x.price(0, 1), 11);
    Due.due("half: price(0, 2)", x.price(0, 2), 1);
    Due.due("half: price(1, 2)", x.price(1, 2), 11);
    due("half", x, 0, 5, 1, 0, 4);
    due("half", x, 1, 2, 1, 1, 0);
    due("half", x, 2, 4, 1, 2, 0);
    Due.rowDue("half: shares", Due.shares(x, 0), 9, 0, 1);
  }

  private static void due(
      String name, EldestSays x, int i, int votes, int carries, int ends, int bought) {
    Due.due(name + ": votes(" + i + ")", x.votes(i), votes);
    Due.due(name + ": carries(" + i + ")", x.carries(i), carries);
    Due.due(name + ": ends(" + i + ")", x.ends(i), ends);
    Due.due(name + ": bought(" + i + ")", x.bought(i), bought);
  }

  private static void cleverByMore() {
    EldestSays x = Due.beach("m001;m001;m001;l100;");
    Due.rowDue("more: offer of 0", Due.offer(x, 0), 10, 0, 0);
    Due.rowDue("more: offer of 1", Due.offer(x, 1), 10, 0);
    Due.due("more: price(0, 1)", x.price(0, 1), 0);
    Due.due("more: price(0, 2)", x.price(0, 2), 11);
    due("more", x, 0, 3, 1, 0, 2);
    due("more", x, 1, 2, 0, 2, -9);
    due("more", x, 2, 4, 1, 2, 0);
    Due.rowDue("more: shares from 1", Due.shares(x, 1), -1, 10);
    Due.rowDue("more: shares from 0", Due.shares(x, 0), 10, 0, 0);
    Due.due("tie", x.set(2, 1), 0);
    Due.rowDue("more, tie: offer of 1", Due.offer(x, 1), 0, 10);
    due("more, tie", x, 1, 6, 1, 1, 4);
    Due.due("more, tie: price(0, 1)", x.price(0, 1), 0);
    Due.due("more, tie: price(0, 2)", x.price(0, 2), 10);
  }

  private static void pricesOfKinds() {
    int[] strict = {11, 10, 12, 10, 5, 17, 2};
    int[] tied = {10, 10, 11, 10, 5, 16, 2};
    int[] poor = {0, 0, 1, 0, 5, 6, 2};
    for (int kind = 0; kind <= 6; kind++) {
      EldestSays x = Due.beach("m001;m" + kind + "51;");
      Due.due("price of kind " + kind, x.price(0, 1), strict[kind]);
      x.set(2, 1);
      Due.due("price of kind " + kind + " with tie", x.price(0, 1), tied[kind]);
      x.set(0, 0);
      Due.due("price of kind " + kind + ", no coins", x.price(0, 1), poor[kind]);
    }
  }

  private static void pricesOfThoseElseAshore() {
    // Man 1 must have man 2, who weighs more and asks for 11, so he is ashore else.
    int[] prices = {0, 0, 0, 0, 5, 5, 2};
    for (int kind = 0; kind <= 6; kind++) {
      for (int tie = 0; tie <= 1; tie++) {
        EldestSays x = Due.beach("m001;m" + kind + "51;m593;l1" + tie + "0;");
        Due.due("ashore kind " + kind + ": gets(1, 1)", x.gets(1, 1), -1);
        Due.due("ashore kind " + kind + ": price", x.price(0, 1), prices[kind]);
      }
    }
  }

  private static void laws() {
    for (int law = 0; law <= 2; law++) {
      EldestSays x = Due.beach("m001;m441;m431;m421;m411;l" + law + "00;");
      Due.due("five, law " + law, x.bought(0), law == 2 ? 28 : 24);
      x = Due.beach("m001;m441;m421;m411;l" + law + "00;");
      Due.due("four, law " + law, x.bought(0), law == 0 ? 8 : 12);
      x = Due.beach("m001;m431;m411;l" + law + "00;");
      Due.due("three, law " + law, x.bought(0), 4);
      x = Due.beach("m001;m411;l" + law + "00;");
      Due.due("two, law " + law, x.bought(0), law == 0 ? 0 : 2);
      x = Due.beach("m002;m441;m431;m421;m411;l" + law + "00;");
      Due.due("weights 2 of 6, law " + law, x.bought(0), law == 0 ? 16 : 24);
      x = Due.beach("m009;m419;l" + law + "00;");
      Due.due("nine and nine, law " + law, x.bought(0), law == 0 ? 0 : 2);
      x = Due.beach("m009;m418;l" + law + "00;");
      Due.due("nine and eight, law " + law, x.bought(0), law == 2 ? 2 : 0);
      x = Due.beach("m008;m414;l" + law + "00;");
      Due.due("eight and four, law " + law, x.bought(0), 0);
      x = Due.beach("m007;m414;l" + law + "00;");
      Due.due("seven and four, law " + law, x.bought(0), law == 2 ? 2 : 0);
    }
  }

  private static void whomOneBuysFirst() {
    EldestSays x = Due.beach("m001;m421;m421;m421;m421;");
    Due.due("eldest first", x.bought(0), 6);
    Due.rowDue("eldest first", Due.offer(x, 0), 6, 2, 2, 0, 0);
    x.set(3, 1);
    Due.due("youngest first", x.bought(0), 24);
    Due.rowDue("youngest first", Due.offer(x, 0), 6, 0, 0, 2, 2);
    x = Due.beach("m001;m433;m422;m411;l100;");
    Due.due("eldest first, the one of three", x.bought(0), 2);
    x.set(3, 1);
    Due.due("youngest first, the two of three", x.bought(0), 12);
    x.set(1, 2);
    Due.due("only one set is cheapest", x.bought(0), 10);
    Due.rowDue("only one set is cheapest", Due.offer(x, 0), 6, 3, 0, 1);
    x.set(0, 4);
    Due.due("it is just paid for", x.bought(0), 10);
    x.set(0, 3);
    Due.due("it is too dear", x.bought(0), -9);
    Due.rowDue("he keeps all", Due.offer(x, 0), 3, 0, 0, 0);
    Due.due("nobody with him", x.votes(0), 1);
    Due.due("not carried", x.carries(0), 0);
    // The eldest with whom it can be cheapest, then the next eldest beside him.
    x = Due.beach("m001;m421;m411;m421;m411;m421;");
    Due.due("eldest of the last place", x.bought(0), 20);
    x.set(1, 1);
    Due.due("eldest of the dearer ones", x.bought(0), 22);
    x.set(3, 1);
    Due.due("youngest of the dearer ones", x.bought(0), 52);
  }

  private static void freeVotes() {
    EldestSays x = Due.beach("m001;m401;m451;");
    Due.due("who asks for nothing is in the set", x.bought(0), 2);
    Due.due("and votes yes", x.votes(0), 3);
    x.set(3, 1);
    Due.due("so too from the youngest on", x.bought(0), 2);
    x = Due.beach("m009;m401;m451;m411;m611;");
    Due.due("though he is not needed", x.bought(0), 18);
    x = Due.beach("m301;m401;m491;l200;c3;");
    Due.due("votes for one who buys nobody", x.votes(0), 3);
    Due.due("carried so", x.carries(0), 1);
    x = Due.beach("m001;m404;m499;c3;");
    Due.due("too dear, and the free votes are too few", x.votes(0), 3);
    Due.due("not carried", x.carries(0), 0);
    Due.due("no set", x.bought(0), -9);
  }

  private static void fairSays() {
    EldestSays x = Due.beach("m301;m001;m001;");
    Due.rowDue("fair", Due.offer(x, 0), 4, 3, 3);
    Due.due("fair: votes", x.votes(0), 5);
    Due.due("fair: no set", x.bought(0), -9);
    Due.due("fair: carries", x.carries(0), 1);
    Due.rowDue("fair: shares", Due.shares(x, 0), 4, 3, 3);
    x.set(0, 2);
    Due.rowDue("fair with less than one each", Due.offer(x, 0), 2, 0, 0);
    x = Due.beach("m301;");
    Due.rowDue("fair alone", Due.offer(x, 0), 10);
    Due.due("fair alone: no set", x.bought(0), -9);
    x = Due.beach("m301;m301;m301;m301;m301;m301;m301;m301;c99;");
    Due.rowDue("eight fair ones", Due.offer(x, 0), 15, 12, 12, 12, 12, 12, 12, 12);
  }

  private static void foolAndMeekSay() {
    EldestSays x = Due.beach("m431;m001;m001;m001;");
    Due.rowDue("fool", Due.offer(x, 0), 1, 3, 3, 3);
    x.set(0, 9);
    Due.rowDue("fool: all", Due.offer(x, 0), 0, 3, 3, 3);
    x.set(0, 8);
    Due.rowDue("fool: the eldest first", Due.offer(x, 0), 2, 3, 3, 0);
    x.set(0, 2);
    Due.rowDue("fool: too few", Due.offer(x, 0), 2, 0, 0, 0);
    Due.due("fool: no set", x.bought(0), -9);
    x = Due.beach("m631;m001;m001;m001;c7;");
    Due.rowDue("meek: the youngest first", Due.offer(x, 0), 1, 0, 3, 3);
    Due.due("meek: no set", x.bought(0), -9);
    x.set(0, 19);
    Due.rowDue("meek: the rest he keeps", Due.offer(x, 0), 10, 3, 3, 3);
    x = Due.beach("m401;m001;m001;c7;");
    Due.rowDue("fool who gives nothing", Due.offer(x, 0), 7, 0, 0);
  }

  private static void refusals() {
    EldestSays x = Due.beach("m001;m001;m001;");
    int[] none = {-1, 3, 7, 8, Integer.MIN_VALUE, Integer.MAX_VALUE};
    for (int i : none) {
      Due.due("offered(" + i + ", 2)", x.offered(i, 2), -1);
      Due.due("offered(0, " + i + ")", x.offered(0, i), -1);
      Due.due("price(" + i + ", 0)", x.price(i, 0), -1);
      Due.due("price(0, " + i + ")", x.price(0, i), -1);
      Due.due("votes(" + i + ")", x.votes(i), -1);
      Due.due("carries(" + i + ")", x.carries(i), -1);
      Due.due("ends(" + i + ")", x.ends(i), -1);
      Due.due("gets(" + i + ", 2)", x.gets(i, 2), Due.REFUSED + 1);
      Due.due("gets(0, " + i + ")", x.gets(0, i), Due.REFUSED + 1);
      Due.due("bought(" + i + ")", x.bought(i), -1);
    }
    Due.refusalsDue(x, 60, 0, 0, 0, 0);
    Due.due("offered to an older one", x.offered(1, 0), -1);
    Due.due("gets of an older one", x.gets(2, 1), Due.REFUSED + 1);
    Due.refusalsDue(x, 62, 0, 0, 0, 0);
    Due.due("price of an older one", x.price(2, 1), -9);
    Due.due("price of himself", x.price(1, 1), -9);
    Due.refusalsDue(x, 62, 0, 0, 0, 0);
  }
}
