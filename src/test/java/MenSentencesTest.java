/** Terms, I: men, settings, the sayer, laws. Each method keeps one sentence's edges. */
public final class MenSentencesTest {
  public static void main(String[] args) {
    menAsTheyCome();
    kinds();
    figures();
    weights();
    coins();
    law();
    tie();
    first();
    shake();
    theSayer();
    menBeforeHimAreAshore();
    doneOrNot();
    whoIsLeft();
    heTooAlways();
    weightsThatAreLeft();
    half();
    more();
    twoThirds();
    allWeights();
    theNextOneSays();
    theLastOneAlone();
    Due.end();
  }

  private static void menAsTheyCome() {
    Due.by("MEN 0 .. 7 as they come (0 the eldest)");
    EldestSays x = Due.beach("m011;m122;m233;m344;");
    Due.tell(x, "m455;m566;m677;m088;");
    int[] kinds = {0, 1, 2, 3, 4, 5, 6, 0};
    for (int j = 0; j < 8; j++) {
      Due.due("kind of " + j, x.man(j, 0), kinds[j]);
      Due.due("figure of " + j, x.man(j, 1), j + 1);
      Due.due("weight of " + j, x.man(j, 2), j + 1);
    }
    Due.due("there is no man 8", x.man(8, 0), -1);
    Due.due("there is no man -1", x.man(-1, 0), -1);
    Due.due("a ninth does not come", Due.told(x, "m001;"), -2000);
    Due.due("men", x.count(0), 8);
  }

  private static void kinds() {
    Due.by("of KINDS: 0 CLEVER; 1 COMPANY under CLEVER; 2 ENVIOUS under CLEVER; 3 FAIR under"
        + " COMPANY; 4 FOOL under CLEVER; 5 SPITEFUL under ENVIOUS; 6 MEEK under FOOL");
    for (int kind = 0; kind <= 9; kind++) {
      EldestSays x = new EldestSays();
      Due.due("a man of kind " + kind, Due.told(x, "m" + kind + "01;"), kind <= 6 ? 1 : -2000);
      Due.due("men then", x.count(0), kind <= 6 ? 1 : 0);
      Due.due("his kind", x.man(0, 0), kind <= 6 ? kind : -1);
    }
  }

  private static void figures() {
    Due.by("with a FIGURE (0 .. 9)");
    for (int figure = 0; figure <= 9; figure++) {
      EldestSays x = Due.beach("m001;m4" + figure + "1;");
      Due.due("figure", x.man(1, 1), figure);
      Due.due("his price", x.price(0, 1), figure);
    }
  }

  private static void weights() {
    Due.by("a WEIGHT (1 .. 9)");
    for (int weight = 0; weight <= 9; weight++) {
      EldestSays x = new EldestSays();
      Due.due("a man of weight " + weight, Due.told(x, "m00" + weight + ";"), weight > 0 ? 1 : -2000);
      Due.due("weights then", x.count(3), weight);
    }
  }

  /** A setting's first value, its least and its greatest, and what lies beyond them. */
  private static void settingDue(int what, int first, int greatest) {
    EldestSays x = new EldestSays();
    Due.due("one below the least", x.set(what, -1), -4);
    Due.due("far below", x.set(what, Integer.MIN_VALUE), -4);
    Due.due("one above the greatest", x.set(what, greatest + 1), -6);
    Due.due("far above", x.set(what, Integer.MAX_VALUE), -6);
    Due.due("at first", x.set(what, greatest), first);
    for (int v = 0; v <= greatest; v++) {
      Due.due("the one before " + v, x.set(what, v), v == 0 ? greatest : v - 1);
    }
    Due.due("the greatest", x.set(what, 0), greatest);
    Due.refusalsDue(x, 0, 0, 0, 2, 2);
  }

  private static void coins() {
    Due.by("0 COINS (0 .. 99; 10 at first)");
    settingDue(0, 10, 99);
    Due.rowDue("at first", Due.offer(Due.beach("m001;"), 0), 10);
  }

  private static void law() {
    Due.by("1 LAW (0 HALF, 1 MORE, 2 TWO THIRDS; 0 at first)");
    settingDue(1, 0, 2);
    EldestSays x = Due.beach("m401;m491;");
    Due.due("half at first", x.carries(0), 1);
    x.set(1, 1);
    Due.due("more", x.carries(0), 0);
    x = Due.beach("m403;m492;");
    x.set(1, 1);
    Due.due("three of five is more", x.carries(0), 1);
    x.set(1, 2);
    Due.due("and not two thirds", x.carries(0), 0);
  }

  private static void tie() {
    Due.by("2 TIE (0 no, 1 yes; 0 at first)");
    settingDue(2, 0, 1);
    EldestSays x = Due.beach("m001;m001;");
    Due.due("no at first", x.price(0, 1), 11);
    x.set(2, 1);
    Due.due("yes", x.price(0, 1), 10);
  }

  private static void first() {
    Due.by("3 FIRST (0 the eldest, 1 the youngest; 0 at first)");
    settingDue(3, 0, 1);
    EldestSays x = Due.beach("m001;m411;m411;m411;");
    Due.due("the eldest at first", x.bought(0), 2);
    x.set(3, 1);
    Due.due("the youngest", x.bought(0), 8);
  }

  private static void shake() {
    Due.by("4 SHAKE (0 .. 99 hundredths; 10 at first)");
    settingDue(4, 10, 99);
    EldestSays x = Due.beach("m001;m001;l100;");
    Due.due("above the line at first", x.shaken(0), 1);
    Due.due("below the line at first", x.shaken(1), 10);
  }

  private static void theSayer() {
    Due.by("THE SAYER: the man who says now (0 at first)");
    EldestSays x = new EldestSays();
    Due.due("without men", x.count(1), 0);
    Due.tell(x, "m001;m001;m001;");
    Due.due("at first", x.count(1), 0);
    Due.putAshore(x);
    Due.due("then", x.count(1), 1);
    Due.putAshore(x);
    Due.due("and then", x.count(1), 2);
    Due.due("the last carries it", x.says(), 1);
    Due.due("he is it still", x.count(1), 2);
  }

  private static void menBeforeHimAreAshore() {
    Due.by("MEN before him are ashore");
    EldestSays x = Due.beach("m001;m001;m001;");
    Due.putAshore(x);
    Due.due("man 0", x.got(0), -1);
    Due.due("man 1", x.got(1), 0);
    Due.due("weights left", x.count(3), 2);
    Due.due("what he gets is not asked", x.byLaw(0, 0, 0), Due.REFUSED + 1);
    Due.due("but what man 1 gets", x.byLaw(0, 0, 1), 10);
    Due.due("nobody changes places", x.swap(1, 2), -3);
  }

  private static void doneOrNot() {
    Due.by("DONE or not (not at first)");
    EldestSays x = new EldestSays();
    Due.due("without men", x.count(2), 0);
    Due.tell(x, "m001;m001;");
    Due.due("at first", x.count(2), 0);
    Due.putAshore(x);
    Due.due("while it goes on", x.count(2), 0);
    Due.due("says", x.says(), 1);
    Due.due("then", x.count(2), 1);
  }

  private static void whoIsLeft() {
    Due.by("If man i says, MEN i and younger ones are left");
    EldestSays x = Due.beach("m009;m001;m411;m411;m411;c9;");
    // Of the four that are left he needs one more; with the eldest he would need all.
    Due.due("man 1 buys one", x.bought(1), 4);
    Due.rowDue("man 1 says", Due.offer(x, 1), 8, 1, 0, 0);
    Due.due("no offer to an older one", x.offered(1, 0), -1);
    Due.due("nor a vote of his", x.votes(1), 6);
  }

  private static void heTooAlways() {
    Due.by("(he too, always)");
    for (int kind = 0; kind <= 6; kind++) {
      EldestSays x = Due.beach("m" + kind + "91;m" + kind + "91;m" + kind + "91;l200;c0;");
      for (int i = 0; i < 3; i++) {
        Due.due("kind " + kind + ", man " + i, x.votes(i) & 1 << i, 1 << i);
      }
    }
    EldestSays x = Due.beach("m401;m491;");
    Due.due("his own vote is half", x.votes(0), 1);
    Due.due("carried by it", x.carries(0), 1);
  }

  private static void weightsThatAreLeft() {
    Due.by("of all WEIGHTS that are left");
    EldestSays x = Due.beach("m009;m001;m001;");
    Due.putAshore(x);
    Due.tellRow(x, 10, 0);
    Due.due("one of two, not of eleven", x.goes(2), 1);
    x = Due.beach("m009;m401;m491;");
    Due.due("likewise, if all vote as they do", x.carries(1), 1);
  }

  /** Whether the eldest's vote alone carries it, against one of another weight. */
  private static void carriedDue(int law, int yes, int no, int due) {
    String name = yes + " against " + no;
    EldestSays x = Due.beach("m00" + yes + ";m00" + no + ";l" + law + "00;");
    Due.tellRow(x, 10, 0);
    Due.due(name + " as told", x.goes(1), due);
    x = Due.beach("m40" + yes + ";m49" + no + ";l" + law + "00;");
    Due.due(name + " as they vote", x.carries(0), due);
    Due.due(name + " as they say", x.says(), due);
    x = Due.beach("m00" + yes + ";m49" + no + ";l" + law + "00;c0;");
    Due.due(name + ": nobody is bought", x.bought(0), due == 1 ? 0 : -9);
    x.set(4, 0);
    Due.due(name + " with steady hands", x.shaken(0), due);
  }

  private static void half() {
    Due.by("HALF: twice as much or more");
    carriedDue(0, 1, 1, 1);
    carriedDue(0, 9, 9, 1);
    carriedDue(0, 1, 2, 0);
    carriedDue(0, 8, 9, 0);
    carriedDue(0, 2, 1, 1);
  }

  private static void more() {
    Due.by("MORE: twice as much is more");
    carriedDue(1, 1, 1, 0);
    carriedDue(1, 9, 9, 0);
    carriedDue(1, 2, 1, 1);
    carriedDue(1, 9, 8, 1);
    carriedDue(1, 1, 2, 0);
  }

  private static void twoThirds() {
    Due.by("TWO THIRDS: three times as much is twice that or more");
    carriedDue(2, 2, 1, 1);
    carriedDue(2, 8, 4, 1);
    carriedDue(2, 7, 4, 0);
    carriedDue(2, 3, 2, 0);
    carriedDue(2, 5, 2, 1);
    carriedDue(2, 9, 5, 0);
  }

  private static void allWeights() {
    Due.by("It is CARRIED, if the WEIGHTS of those who vote yes");
    for (int yes = 1; yes <= 9; yes++) {
      for (int no = 1; no <= 9; no++) {
        carriedDue(0, yes, no, yes >= no ? 1 : 0);
        carriedDue(1, yes, no, yes > no ? 1 : 0);
        carriedDue(2, yes, no, yes >= 2 * no ? 1 : 0);
      }
    }
  }

  private static void theNextOneSays() {
    Due.by("If it isn't, he is ashore, and the next one says");
    EldestSays x = Due.beach("m401;m402;m499;");
    Due.due("from 0", x.ends(0), 2);
    Due.due("from 1", x.ends(1), 2);
    Due.rowDue("what all get", Due.shares(x, 0), -1, -1, 10);
    Due.due("says", x.says(), 0);
    Due.due("the sayer", x.count(1), 1);
    Due.due("says", x.says(), 0);
    Due.due("the sayer", x.count(1), 2);
    Due.due("says", x.says(), 1);
  }

  private static void theLastOneAlone() {
    Due.by("The last one alone always carries it");
    for (int kind = 0; kind <= 6; kind++) {
      for (int law = 0; law <= 2; law++) {
        for (int coins = 0; coins <= 99; coins += 33) {
          String text = "m" + kind + "91;l" + law + "00;c" + coins + ";";
          EldestSays x = Due.beach("m009;" + text);
          Due.due(text + " carries", x.carries(1), 1);
          Due.due(text + " ends", x.ends(1), 1);
          Due.due(text + " votes", x.votes(1), 2);
          Due.due(text + " gets", x.gets(1, 1), coins);
          Due.due(text + " is offered", x.offered(1, 1), coins);
          Due.putAshore(x);
          Due.due(text + " fewest", x.fewest(), 0);
          Due.due(text + " shaken", x.shaken(0), 1);
          Due.due(text + " shaken below", x.shaken(1), 1);
          Due.due(text + " says", x.says(), 1);
          Due.due(text + " got", x.got(1), coins);
        }
      }
    }
  }
}
