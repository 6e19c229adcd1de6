/** Terms, II: what each would offer, and evenings. Each method keeps one sentence. */
public final class EveningSentencesTest {
  public static void main(String[] args) {
    offered();
    price();
    votes();
    carries();
    ends();
    gets();
    bought();
    row();
    votesAsBits();
    rowIsNotAsMany();
    rowIsNotCoinsTogether();
    firstManWhoVotesOtherwise();
    sayerWhoVotesNo();
    judgedNone();
    votesAsToldDecide();
    carriedIsDone();
    elseTheNextOne();
    noNextOne();
    saysLikewise();
    got();
    Due.end();
  }

  private static void offered() {
    Due.by("OFFERED by i to j (COINS; j may be i)");
    EldestSays x = Due.beach("m431;m431;m431;");
    Due.due("to himself, the eldest", x.offered(0, 0), 4);
    Due.due("to himself, the second", x.offered(1, 1), 7);
    Due.due("to himself, the last", x.offered(2, 2), 10);
    Due.due("to the last", x.offered(0, 2), 3);
    Due.due("to an older one", x.offered(2, 0), -1);
  }

  private static void price() {
    Due.by("PRICE (-9: he is older, or i himself)");
    EldestSays x = Due.beach("m431;m441;m451;");
    for (int i = 0; i < 3; i++) {
      for (int j = 0; j < 3; j++) {
        Due.due("price(" + i + ", " + j + ")", x.price(i, j), j > i ? j + 3 : -9);
      }
    }
    Due.refusalsDue(x, 0, 0, 0, 0, 0);
  }

  private static void votes() {
    Due.by("VOTES for i (bits of those who vote yes, i too)");
    EldestSays x = Due.beach("m431;m491;m431;m401;");
    Due.due("all but man 1", x.votes(0), 1 + 4 + 8);
    Due.due("for man 1", x.votes(1), 2 + 4 + 8);
    Due.due("for the last", x.votes(3), 8);
    x = Due.beach("m401;".repeat(8));
    Due.due("eight", x.votes(0), 255);
    Due.due("the eighth", x.votes(7), 128);
  }

  private static void carries() {
    Due.by("CARRIES: 1, 0");
    EldestSays x = Due.beach("m401;m491;m491;");
    Due.due("one of three", x.carries(0), 0);
    Due.due("one of two", x.carries(1), 1);
    Due.due("the last", x.carries(2), 1);
  }

  private static void ends() {
    Due.by("ENDS from i: who carries it, if i says first");
    EldestSays x = Due.beach("m401;m411;m491;m491;");
    Due.due("from 0", x.ends(0), 2);
    Due.due("from 1", x.ends(1), 2);
    Due.due("from 2", x.ends(2), 2);
    Due.due("from 3", x.ends(3), 3);
    Due.putAshore(x);
    Due.due("from one ashore, if he said first", x.ends(0), 2);
  }

  private static void gets() {
    Due.by("GETS from i of j: what he gets then (-1 ASHORE)");
    EldestSays x = Due.beach("m401;m411;m421;m491;");
    Due.rowDue("from 0", Due.shares(x, 0), -1, -1, 8, 2);
    Due.rowDue("from 1", Due.shares(x, 1), -1, 8, 2);
    Due.rowDue("from 2", Due.shares(x, 2), 8, 2);
    Due.rowDue("from 3", Due.shares(x, 3), 10);
  }

  private static void bought() {
    Due.by("BOUGHT by i: the set (bits); -9 there is none that COINS pay for, or i is none who buys"
        + " (KINDS 3, 4, 6)");
    for (int kind = 0; kind <= 6; kind++) {
      boolean buys = kind != 3 && kind != 4 && kind != 6;
      EldestSays x = Due.beach("m" + kind + "01;m421;m421;c2;");
      Due.due("kind " + kind + " buys", x.bought(0), buys ? 2 : -9);
      x.set(0, 1);
      Due.due("kind " + kind + " with too few coins", x.bought(0), -9);
      x = Due.beach("m" + kind + "09;m421;m421;c0;");
      Due.due("kind " + kind + " needs nobody", x.bought(0), buys ? 0 : -9);
      Due.due("kind " + kind + " alone", Due.beach("m" + kind + "01;").bought(0), buys ? 0 : -9);
    }
    EldestSays x = Due.beach("m001;m411;m411;m411;m411;m411;m411;m411;l001;");
    Due.due("the last of eight", x.bought(0), 224);
    Due.refusalsDue(x, 0, 0, 0, 0, 0);
  }

  private static void row() {
    Due.by("a ROW of COINS (0 .. 99; 8 at most) is told as an offer of THE SAYER, for MEN from him"
        + " on");
    EldestSays x = Due.beach("m001;".repeat(8) + "c99;");
    Due.due("below 0", x.row(-1), -4);
    Due.due("above 99", x.row(100), -6);
    Due.tellRow(x, 99, 0, 0, 0, 0, 0, 0, 0);
    Due.due("a ninth", x.row(0), -6);
    Due.due("eight in it", x.count(5), 8);
    Due.due("it is as many as are left", x.goes(255), 1);
    Due.due("99", x.got(0), 99);
    Due.due("0", x.got(7), 0);
    x = Due.beach("m001;m001;m001;");
    Due.putAshore(x);
    Due.tellRow(x, 7, 3);
    Due.due("from the sayer on", x.goes(6), 1);
    Due.due("the sayer", x.got(1), 7);
    Due.due("the next", x.got(2), 3);
  }

  private static void votesAsBits() {
    Due.by("VOTES as bits with it");
    EldestSays x = Due.beach("m001;m431;m431;m431;");
    Due.tellRow(x, 4, 3, 0, 3);
    Due.due("what votes() answers is what is due", x.votes(0), 1 + 2);
    Due.due("bits of who is paid", x.judge(1 + 2 + 8), -9);
    Due.putAshore(x);
    Due.tellRow(x, 7, 0, 3);
    Due.due("the same man has the same bit", x.judge(2 + 8), -9);
    Due.due("what the fool says has all votes", x.votes(1), 2 + 4 + 8);
  }

  private static void rowIsNotAsMany() {
    Due.by("JUDGED: 0, if the ROW has not as many as are left");
    EldestSays x = Due.beach("m001;m001;c9;");
    Due.due("none", x.judge(3), 0);
    Due.tellRow(x, 9);
    Due.due("one too few", x.judge(3), 0);
    Due.tellRow(x, 9, 0, 0);
    Due.due("one too many", x.judge(3), 0);
    Due.tellRow(x, 9, 0);
    Due.due("as many", x.judge(1), -9);
    Due.tell(x, "m001;");
    Due.due("a man more came", x.judge(1), 0);
    x.row(0);
    Due.due("as many again", x.judge(1), -9);
    Due.due("one goes ashore", x.goes(1), 0);
    Due.tellRow(x, 9, 0, 0);
    Due.due("who is ashore is not left", x.judge(2), 0);
    Due.tellRow(x, 9, 0);
    Due.due("as many as are left", x.judge(2), -9);
    Due.refusalsDue(x, 0, 0, 0, 0, 0);
  }

  private static void rowIsNotCoinsTogether() {
    Due.by("or not COINS together; else");
    EldestSays x = Due.beach("m001;m001;");
    Due.tellRow(x, 9, 0);
    Due.due("one less", x.judge(1), 0);
    Due.tellRow(x, 10, 1);
    Due.due("one more", x.judge(1), 0);
    Due.tellRow(x, 9, 1);
    Due.due("just so", x.judge(1), -9);
    x.set(0, 11);
    Due.due("there are more coins now", x.judge(1), 0);
    x.set(0, 0);
    Due.tellRow(x, 0, 0);
    Due.due("no coins", x.judge(1), -9);
    x = Due.beach("m001;".repeat(8) + "c99;");
    Due.tellRow(x, 99, 99, 99, 99, 99, 99, 99, 99);
    Due.due("far too many", x.judge(255), 0);
    Due.refusalsDue(x, 0, 0, 0, 0, 0);
  }

  private static void firstManWhoVotesOtherwise() {
    Due.by("the place in the ROW, and 1, of the first man (not THE SAYER) who votes otherwise than"
        + " his PRICE says");
    EldestSays x = Due.beach("m001;m431;m431;m431;");
    Due.tellRow(x, 2, 2, 3, 3);
    Due.due("all as they should", x.judge(1 + 4 + 8), -9);
    Due.due("man 1 should vote no", x.judge(15), 2);
    Due.due("man 2 should vote yes", x.judge(1 + 8), 3);
    Due.due("man 3 should vote yes", x.judge(1 + 4), 4);
    Due.due("the first of three", x.judge(1 + 2), 2);
    Due.due("the first of two", x.judge(1), 3);
    Due.due("the row stays", x.count(5), 4);
    Due.putAshore(x);
    Due.tellRow(x, 6, 1, 3);
    Due.due("places are those of the row", x.judge(2 + 4 + 8), 2);
    Due.due("bits are those of men", x.judge(2 + 8), -9);
    x = Due.beach("m401;".repeat(8));
    Due.tellRow(x, 10, 0, 0, 0, 0, 0, 0, 0);
    Due.due("the last of eight", x.judge(127), 8);
  }

  private static void sayerWhoVotesNo() {
    Due.by("or, of THE SAYER, if he votes no");
    EldestSays x = Due.beach("m001;m431;m431;");
    Due.tellRow(x, 7, 3, 0);
    Due.due("he alone is odd", x.judge(2), 1);
    Due.due("he is before all others", x.judge(4), 1);
    Due.due("nobody votes yes", x.judge(0), 1);
    Due.putAshore(x);
    Due.tellRow(x, 10, 0);
    Due.due("the next sayer", x.judge(1), 1);
    Due.due("he votes yes", x.judge(2), -9);
  }

  private static void judgedNone() {
    Due.by("if he votes no; -9 none");
    EldestSays x = Due.beach("m001;");
    Due.tellRow(x, 10);
    Due.due("alone", x.judge(1), -9);
    Due.due("bits of no man", x.judge(Integer.MAX_VALUE), -9);
    Due.refusalsDue(x, 0, 0, 0, 0, 0);
  }

  private static void votesAsToldDecide() {
    Due.by("GOES: the votes as told decide (THE SAYER's as told)");
    EldestSays x = Due.beach("m001;m491;m491;");
    Due.tellRow(x, 10, 0, 0);
    Due.due("yes against their prices", x.goes(7), 1);
    x = Due.beach("m001;m401;m401;");
    Due.tellRow(x, 10, 0, 0);
    Due.due("no against their prices", x.goes(1), 0);
    x = Due.beach("m001;m401;m401;");
    Due.tellRow(x, 10, 0, 0);
    Due.due("two of three without the sayer", x.goes(6), 1);
    x = Due.beach("m003;m402;");
    Due.tellRow(x, 10, 0);
    Due.due("two of five, for the sayer votes no", x.goes(2), 0);
    x = Due.beach("m003;m402;");
    Due.tellRow(x, 10, 0);
    Due.due("three of five, for he votes yes", x.goes(1), 1);
    x = Due.beach("m001;m002;");
    Due.tellRow(x, 10, 0);
    Due.due("bits of no man do not count", x.goes(1 + 4 + 8 + (1 << 30)), 0);
    x = Due.beach("m001;".repeat(8));
    Due.tellRow(x, 10, 0, 0, 0, 0, 0, 0, 0);
    Due.due("nor does a ninth bit", x.goes(1 + 2 + 4 + 256), 0);
    Due.tellRow(x, 10, 0, 0, 0, 0, 0, 0);
    Due.due("nor that of one who is ashore", x.goes(1 + 2 + 4 + 8), 0);
    x = Due.beach("m001;m002;");
    x.image();
    Due.tell(x, "m009;");
    Due.due("the heavy one is no more", x.restore(), 2);
    Due.tellRow(x, 10, 0);
    Due.due("nor does his bit", x.goes(1 + 4), 0);
  }

  private static void carriedIsDone() {
    Due.by("CARRIED: it is DONE, all get what was offered");
    EldestSays x = Due.beach("m001;m001;m001;");
    Due.tellRow(x, 0, 9, 1);
    Due.due("goes", x.goes(7), 1);
    Due.due("done", x.count(2), 1);
    Due.due("the sayer", x.count(1), 0);
    int[] got = {0, 9, 1};
    for (int j = 0; j < 3; j++) {
      Due.due("got " + j, x.got(j), got[j]);
    }
    Due.due("the row has none", x.count(5), 0);
    Due.due("weights left", x.count(3), 3);
  }

  private static void elseTheNextOne() {
    Due.by("else he is ashore, the next one is THE SAYER (if there is one");
    EldestSays x = Due.beach("m001;m001;m001;");
    Due.tellRow(x, 0, 9, 1);
    Due.due("goes", x.goes(1), 0);
    Due.due("not done", x.count(2), 0);
    Due.due("the sayer", x.count(1), 1);
    Due.due("he is ashore", x.got(0), -1);
    Due.due("nobody got anything", x.got(1), 0);
    Due.due("the row has none", x.count(5), 0);
    Due.due("weights left", x.count(3), 2);
  }

  private static void noNextOne() {
    Due.by("(if there is one; else it is DONE)");
    EldestSays x = Due.beach("m001;m007;");
    Due.putAshore(x);
    Due.tellRow(x, 10);
    Due.due("the last votes no", x.goes(0), 0);
    Due.due("done", x.count(2), 1);
    Due.due("no other sayer", x.count(1), 1);
    Due.due("nobody is left", x.count(3), 0);
    Due.due("got 0", x.got(0), -1);
    Due.due("got 1", x.got(1), -1);
    Due.due("says", x.says(), -3);
    Due.due("none more", x.count(6), 0);
    Due.due("image", x.image(), 2);
    Due.due("restore", x.restore(), 2);
    Due.due("he is ashore still", x.got(1), -1);
    Due.due("nobody is left still", x.count(3), 0);
  }

  private static void saysLikewise() {
    Due.by("SAYS: THE SAYER says and all vote as they do: likewise");
    EldestSays x = Due.beach("m401;m431;m491;");
    Due.due("not carried", x.says(), 0);
    Due.due("the next one", x.count(1), 1);
    Due.due("not done", x.count(2), 0);
    Due.due("ashore", x.got(0), -1);
    Due.due("carried", x.says(), 1);
    Due.due("done", x.count(2), 1);
    Due.due("got 0", x.got(0), -1);
    Due.due("got 1", x.got(1), 7);
    Due.due("got 2", x.got(2), 3);
    Due.due("the sayer", x.count(1), 1);
  }

  private static void got() {
    Due.by("GOT: what each got, when it is DONE (-1 who is ashore; 0 else)");
    EldestSays x = Due.beach("m401;m431;m491;");
    for (int j = 0; j < 3; j++) {
      Due.due("before, man " + j, x.got(j), 0);
    }
    Due.due("not carried", x.says(), 0);
    Due.due("who is ashore", x.got(0), -1);
    Due.due("who is left", x.got(1), 0);
    Due.tell(x, "m001;");
    Due.due("who has come since", x.got(3), 0);
    Due.due("not carried", x.says(), 0);
    Due.due("ashore too", x.got(1), -1);
    Due.due("carried", x.says(), 1);
    int[] got = {-1, -1, 1, 9};
    for (int j = 0; j < 4; j++) {
      Due.due("then, man " + j, x.got(j), got[j]);
    }
    Due.due("coins", x.set(0, 50), 10);
    Due.due("what was got stays", x.got(3), 9);
  }
}
