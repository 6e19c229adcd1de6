/** Terms, I: a beach told in letters, and its faults. Each method keeps one sentence. */
public final class LetterSentencesTest {
  public static void main(String[] args) {
    sixtyFour();
    eachWithASemicolon();
    men();
    coins();
    laws();
    atLeastOne();
    faultOfTheForm();
    somethingLacks();
    theFormFirst();
    theFirstWrongStatement();
    numberOutOfRange();
    ninthMan();
    manWhenItIsDone();
    withoutFaultAll();
    withFaultNothing();
    Due.end();
  }

  private static void sixtyFour() {
    Due.by("A BEACH is told in letters, one by one (64 at most)");
    EldestSays x = new EldestSays();
    String text = "c1;".repeat(20) + "c22;";
    Due.feed(x, text);
    Due.due("64 letters", x.count(4), 64);
    Due.due("a 65th", x.feed(';'), -6);
    Due.due("64 are a beach", x.beach(), 21);
    Due.due("the last statement came too", x.set(0, 10), 22);
    Due.due("64 with a short one at the end", Due.told(x, "c22;" + "c1;".repeat(20)), 21);
    Due.due("which came too", x.set(0, 10), 1);
    Due.due("64 with a man at the end", Due.told(x, "c1;".repeat(18) + "l000;m432;"), 20);
    Due.due("who came too", x.man(0, 2), 2);
    Due.feed(x, "c1;".repeat(21) + "c");
    Due.due("a 65th", x.feed('1'), -6);
    Due.due("64 of which the last lacks something", x.beach(), -1064);
  }

  private static void eachWithASemicolon() {
    Due.by("STATEMENTS, each with \";\" behind");
    EldestSays x = new EldestSays();
    Due.due("none", Due.told(x, "c1"), -1002);
    Due.due("none behind the last", Due.told(x, "c1;m001"), -1007);
    Due.due("none between", Due.told(x, "m001m001;"), -1004);
    Due.due("two", Due.told(x, "m001;;"), -1005);
    Due.due("one before", Due.told(x, ";m001;"), -1000);
    Due.due("another sign", Due.told(x, "m001:"), -1004);
    Due.due("a blank", Due.told(x, "c1; c1;"), -1003);
    Due.due("each", Due.told(x, "c1;m001;l000;"), 3);
  }

  private static void men() {
    Due.by("\"m\" KIND, FIGURE, WEIGHT (a digit each): a man more (the youngest)");
    EldestSays x = Due.beach("m123;");
    Due.tell(x, "m456;");
    int[] due = {1, 2, 3, 4, 5, 6};
    for (int k = 0; k < due.length; k++) {
      Due.due("man(" + k / 3 + ", " + k % 3 + ")", x.man(k / 3, k % 3), due[k]);
    }
    Due.due("no digit", Due.told(x, "m;"), -1001);
    Due.due("one digit", Due.told(x, "m1;"), -1002);
    Due.due("two digits", Due.told(x, "m12;"), -1003);
    Due.due("four digits", Due.told(x, "m1234;"), -1004);
    Due.due("a letter for the first", Due.told(x, "mm01;"), -1001);
    Due.due("the sign before 0", Due.told(x, "m0/1;"), -1002);
    Due.due("the sign behind 9", Due.told(x, "m00:;"), -1003);
    Due.due("a great letter", Due.told(x, "M001;"), -1000);
    Due.due("men", x.count(0), 2);
  }

  private static void coins() {
    Due.by("\"c\" COINS (1 or 2 digits)");
    EldestSays x = new EldestSays();
    String[] texts = {"c0;", "c9;", "c00;", "c09;", "c10;", "c90;", "c99;"};
    int[] coins = {0, 9, 0, 9, 10, 90, 99};
    for (int k = 0; k < texts.length; k++) {
      Due.due(texts[k], Due.told(x, texts[k]), 1);
      Due.due("coins of " + texts[k], x.set(0, 55), coins[k]);
    }
    Due.due("no digit", Due.told(x, "c;"), -1001);
    Due.due("three digits", Due.told(x, "c100;"), -1003);
    Due.due("three digits, though it is few", Due.told(x, "c001;"), -1003);
    Due.due("below 0", Due.told(x, "c-1;"), -1001);
    Due.due("coins stay", x.set(0, 10), 55);
  }

  private static void laws() {
    Due.by("\"l\" LAW, TIE, FIRST (a digit each)");
    for (int law = 0; law <= 2; law++) {
      for (int bits = 0; bits < 4; bits++) {
        EldestSays x = Due.beach("l" + law + bits / 2 + bits % 2 + ";");
        Due.due("law", x.set(1, 0), law);
        Due.due("tie", x.set(2, 0), bits / 2);
        Due.due("first", x.set(3, 0), bits % 2);
        Due.due("coins stay", x.set(0, 0), 10);
        Due.due("shake stays", x.set(4, 0), 10);
      }
    }
    EldestSays x = new EldestSays();
    Due.due("no digit", Due.told(x, "l;"), -1001);
    Due.due("one digit", Due.told(x, "l1;"), -1002);
    Due.due("two digits", Due.told(x, "l10;"), -1003);
    Due.due("four digits", Due.told(x, "l1000;"), -1004);
  }

  private static void atLeastOne() {
    Due.by("At least one STATEMENT");
    EldestSays x = new EldestSays();
    Due.due("no letters", x.beach(), -1000);
    Due.due("one statement", Due.told(x, "c1;"), 1);
    Due.due("no letters again", x.beach(), -1000);
  }

  private static void faultOfTheForm() {
    Due.by("kind 1 the place of the first letter with which no BEACH can go on");
    EldestSays x = new EldestSays();
    for (int letter = 0; letter <= 255; letter++) {
      x = new EldestSays();
      Due.due("letter " + letter, x.feed(letter), 1);
      boolean begins = letter == 'm' || letter == 'c' || letter == 'l';
      Due.due("beach of " + letter, x.beach(), begins ? -1001 : -1000);
      x.feed('c');
      x.feed(letter);
      boolean isDigit = letter >= '0' && letter <= '9';
      Due.due("beach of c and " + letter, x.beach(), isDigit ? -1002 : -1001);
      x.feed('c');
      x.feed('1');
      x.feed(letter);
      int due = letter == ';' ? 1 : isDigit ? -1003 : -1002;
      Due.due("beach of c1 and " + letter, x.beach(), due);
      Due.feed(x, "m001");
      x.feed(letter);
      Due.due("beach of m001 and " + letter, x.beach(), letter == ';' ? 1 : -1004);
    }
    Due.due("the first of two", Due.told(x, "c1;x;y;"), -1003);
    Due.due("a far place", Due.told(x, "c1;".repeat(21) + "x"), -1063);
  }

  private static void somethingLacks() {
    Due.by("(the end, if something lacks): -1000 less the place");
    EldestSays x = new EldestSays();
    String[] texts = {"", "m", "m0", "m00", "m001", "c", "c1", "c12", "l", "l0", "l00", "l000"};
    for (String text : texts) {
      Due.due("lacking: " + text, Due.told(x, text), -1000 - text.length());
      Due.due("lacking: c1;" + text,
          Due.told(x, "c1;" + text), text.isEmpty() ? 1 : -1003 - text.length());
    }
  }

  private static void theFormFirst() {
    Due.by("else kind 2 the place of the first letter of the first STATEMENT that is not as it must"
        + " be");
    EldestSays x = new EldestSays();
    Due.due("a wrong one and a broken one", Due.told(x, "m701;x"), -1005);
    Due.due("a wrong one and one that lacks", Due.told(x, "l300;c"), -1006);
    Due.due("a wrong one that lacks its end", Due.told(x, "m700"), -1004);
    Due.due("a wrong one alone", Due.told(x, "m700;"), -2000);
  }

  private static void theFirstWrongStatement() {
    Due.by("a man more when it is DONE): -2000 less the place");
    EldestSays x = new EldestSays();
    Due.due("the second", Due.told(x, "c1;m000;"), -2003);
    Due.due("the third", Due.told(x, "c10;m001;l002;"), -2009);
    Due.due("the first of two", Due.told(x, "c10;l009;m000;"), -2004);
    Due.due("the last of a full text", Due.told(x, "c10;".repeat(14) + "c1;l300;"), -2059);
  }

  private static void numberOutOfRange() {
    Due.by("a number out of range");
    for (int digit = 0; digit <= 9; digit++) {
      EldestSays x = new EldestSays();
      Due.due("kind " + digit, Due.told(x, "m" + digit + "11;"), digit <= 6 ? 1 : -2000);
      Due.due("figure " + digit, Due.told(x, "m1" + digit + "1;"), 1);
      Due.due("weight " + digit, Due.told(x, "m11" + digit + ";"), digit >= 1 ? 1 : -2000);
      Due.due("law " + digit, Due.told(x, "l" + digit + "00;"), digit <= 2 ? 1 : -2000);
      Due.due("tie " + digit, Due.told(x, "l0" + digit + "0;"), digit <= 1 ? 1 : -2000);
      Due.due("first " + digit, Due.told(x, "l00" + digit + ";"), digit <= 1 ? 1 : -2000);
      Due.due("coins " + digit, Due.told(x, "c" + digit + ";"), 1);
    }
  }

  private static void ninthMan() {
    Due.by("a ninth man");
    EldestSays x = Due.beach("m001;".repeat(7));
    Due.due("an eighth and a ninth", Due.told(x, "m001;m001;"), -2005);
    Due.due("seven stay", x.count(0), 7);
    Due.due("an eighth", Due.told(x, "m001;"), 1);
    Due.due("a ninth", Due.told(x, "m001;"), -2000);
    Due.due("a ninth behind coins", Due.told(x, "c5;m001;"), -2003);
    Due.due("coins stay", x.set(0, 10), 10);
    Due.due("but coins come to eight", Due.told(x, "c5;"), 1);
    x = new EldestSays();
    Due.due("nine at once", Due.told(x, "m001;".repeat(9)), -2040);
    Due.due("none of them", x.count(0), 0);
    Due.due("eight at once", Due.told(x, "m001;".repeat(8)), 8);
    Due.putAshore(x);
    Due.due("who is ashore leaves no room", Due.told(x, "m001;"), -2000);
  }

  private static void manWhenItIsDone() {
    Due.by("a man more when it is DONE");
    EldestSays x = Due.beach("m001;m001;");
    Due.putAshore(x);
    Due.due("not done: a man more", Due.told(x, "m001;"), 1);
    Due.due("says", x.says(), 1);
    Due.due("done: no man more", Due.told(x, "m001;"), -2000);
    Due.due("nor behind others", Due.told(x, "c5;l000;m001;"), -2008);
    Due.due("men", x.count(0), 3);
    Due.due("coins and laws come", Due.told(x, "c5;l111;"), 2);
    Due.due("coins", x.set(0, 1), 5);
    x = Due.beach("m001;");
    Due.putAshore(x);
    Due.due("done, and the last is ashore", Due.told(x, "m001;"), -2000);
  }

  private static void withoutFaultAll() {
    Due.by("Without FAULT all of it comes");
    EldestSays x = Due.beach("c1;l000;m001;c2;l211;m699;c33;");
    Due.due("men", x.count(0), 2);
    Due.due("the last coins", x.set(0, 1), 33);
    Due.due("the last law", x.set(1, 1), 2);
    Due.due("the last tie", x.set(2, 1), 1);
    Due.due("the last first", x.set(3, 1), 1);
    Due.due("the last man", x.man(1, 0), 6);
    x = Due.beach("m001;m001;");
    Due.due("bought before", x.bought(0), 0);
    Due.tell(x, "m001;l001;");
    Due.due("bought with one man more", x.bought(0), 4);
  }

  private static void withFaultNothing() {
    Due.by("with one nothing");
    EldestSays x = Due.beach("m001;m001;m001;");
    String[] wrong = {"c5;l111;m419;x", "c5;l111;m419;m", "c5;l111;m419;m700;", "c5;l111;l300;"};
    for (String text : wrong) {
      Due.due("a fault in " + text, Due.told(x, text) < 0 ? 1 : 0, 1);
      Due.due("letters", x.count(4), 0);
      Due.due("men", x.count(0), 3);
      Due.due("coins", x.set(0, 10), 10);
      Due.due("law", x.set(1, 0), 0);
      Due.due("tie", x.set(2, 0), 0);
      Due.due("first", x.set(3, 0), 0);
      Due.due("bought", x.bought(0), 4);
    }
    Due.refusalsDue(x, 0, 0, 0, 0, 0);
  }
}
