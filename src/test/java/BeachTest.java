/** Promises 1 to 5: a new object, feed, beach, man, set. */
public final class BeachTest {
  public static void main(String[] args) {
    newObject();
    feed();
    beachComes();
    brokenBeaches();
    wrongBeaches();
    beachWhenDone();
    man();
    set();
    Due.end();
  }

  private static void newObject() {
    EldestSays x = new EldestSays();
    for (int what = 0; what <= 6; what++) {
      Due.due("new: count(" + what + ")", x.count(what), 0);
    }
    Due.refusalsDue(x, 0, 0, 0, 0, 0);
    int[] first = {10, 0, 0, 0, 10};
    for (int what = 0; what < first.length; what++) {
      Due.due("new: setting " + what, x.set(what, 1), first[what]);
    }
    Due.due("new: man", x.man(0, 0), -1);
    Due.due("new: votes", x.votes(0), -1);
    Due.due("new: clear", x.clear(), 0);
  }

  private static void feed() {
    EldestSays x = new EldestSays();
    Due.due("feed(-1)", x.feed(-1), -4);
    Due.due("feed(least)", x.feed(Integer.MIN_VALUE), -4);
    Due.due("feed(256)", x.feed(256), -6);
    Due.due("feed(greatest)", x.feed(Integer.MAX_VALUE), -6);
    Due.due("nothing came", x.count(4), 0);
    Due.due("feed(0)", x.feed(0), 1);
    Due.due("feed(255)", x.feed(255), 2);
    for (int k = 3; k <= 64; k++) {
      Due.due("feed " + k, x.feed(';'), k);
    }
    Due.due("feed 65", x.feed(';'), -6);
    Due.due("feed(-1) when full", x.feed(-1), -4);
    Due.due("letters", x.count(4), 64);
    Due.refusalsDue(x, 0, 0, 0, 3, 3);
    Due.due("beach of them", x.beach(), -1000);
    Due.due("no letters more", x.count(4), 0);
    Due.due("a fault is not counted", x.count(16), 3);
  }

  private static void beachComes() {
    EldestSays x = Due.beach("c7;l211;m123;m698;c42;");
    Due.due("men", x.count(0), 2);
    Due.due("letters", x.count(4), 0);
    Due.due("coins: the last told", x.set(0, 0), 42);
    Due.due("law", x.set(1, 0), 2);
    Due.due("tie", x.set(2, 0), 1);
    Due.due("first", x.set(3, 0), 1);
    Due.due("shake", x.set(4, 0), 10);
    Due.tell(x, "m001;");
    Due.due("one man more", x.count(0), 3);
    Due.due("the youngest is the new one", x.man(2, 2), 1);
    Due.due("the others stay", x.man(1, 1), 9);
    Due.due("votes of three by two thirds", x.bought(0), -9);
    Due.tell(x, "l000;c20;");
    Due.due("votes, when more has come", x.bought(0), 2);
    Due.tell(x, "c05;");
    Due.due("coins of two digits", x.set(0, 0), 5);
    Due.tell(x, "c0;");
    Due.due("no coins", x.set(0, 0), 0);
    Due.tell(x, "c99;");
    Due.due("most coins", x.set(0, 0), 99);
    Due.tell(x, "m001;m001;m001;m001;m001;");
    Due.due("eight men", x.count(0), 8);
    Due.due("full text", Due.told(x, "c1;c1;c1;c1;c1;c1;c1;c1;c1;c1;c1;c1;c1;c1;c1;c1;c1;c1;c1;c1;c22;"), 21);
    Due.refusalsDue(x, 0, 0, 0, 0, 0);
  }

  private static void brokenBeaches() {
    EldestSays x = new EldestSays();
    String[] texts = {
      "", "m", "m1", "m12", "m123", "c", "c1", "c12", "l", "l00", "c1;m", // something lacks
      ";", "x", "1", "M001;", "c;", "cc", "c1c", "c123;", "m12;", "m1;", "m;", "m1234;", "l000l",
      "l00;", "c1;;", "c1;x", "m001; m001;", "m701;x", "c1;m990;c1", "c1:", "c/;", "c1;;m",
    };
    int[] places = {
      0, 1, 2, 3, 4, 1, 2, 3, 1, 3, 4,
      0, 0, 0, 0, 1, 1, 2, 3, 3, 2, 1, 4, 4,
      3, 3, 3, 5, 5, 10, 2, 1, 3,
    };
    for (int k = 0; k < texts.length; k++) {
      Due.due("broken " + texts[k], Due.told(x, texts[k]), -1000 - places[k]);
      Due.due("letters after it", x.count(4), 0);
    }
    for (int k = 0; k < 64; k++) {
      x.feed(k % 3 == 0 ? 'c' : k % 3 == 1 ? '1' : ';');
    }
    Due.due("the end of a full text", x.beach(), -1064);
    x.feed('c');
    x.feed(255);
    Due.due("a high letter", x.beach(), -1001);
    Due.due("no men of all these", x.count(0), 0);
    Due.due("coins of none of these", x.set(0, 1), 10);
    Due.refusalsDue(x, 0, 0, 0, 0, 0);
  }

  private static void wrongBeaches() {
    EldestSays x = Due.beach("m001;m001;");
    String[] texts = {
      "m701;", "m901;", "m000;", "m690;", "l300;", "l020;", "l002;", "l299;",
      "c5;l300;m701;", "c55;m691;m700;", "m001;m001;m001;m001;m001;m001;m001;l300;",
    };
    int[] places = {0, 0, 0, 0, 0, 0, 0, 0, 3, 9, 30};
    for (int k = 0; k < texts.length; k++) {
      Due.due("wrong " + texts[k], Due.told(x, texts[k]), -2000 - places[k]);
    }
    Due.due("a ninth man alone comes to", Due.told(x, "m001;m001;m001;m001;m001;m001;m001;"), -2030);
    Due.due("nothing came of them", x.count(0), 2);
    Due.due("coins", x.set(0, 10), 10);
    Due.due("law", x.set(1, 0), 0);
    Due.tell(x, "m001;m001;m001;m001;m001;m001;");
    Due.due("a ninth man", Due.told(x, "c3;m001;"), -2003);
    Due.due("eight stay", x.count(0), 8);
  }

  private static void beachWhenDone() {
    EldestSays x = Due.beach("m001;");
    Due.due("says", x.says(), 1);
    Due.due("no man more when done", Due.told(x, "c7;m001;"), -2003);
    Due.due("nor coins with it", x.set(0, 10), 10);
    Due.due("but coins and laws", Due.told(x, "c7;l211;"), 2);
    Due.due("coins", x.set(0, 10), 7);
    x = Due.beach("m001;m001;l100;");
    Due.due("one goes ashore", x.says(), 0);
    Due.due("a man more while it goes on", Due.told(x, "m001;"), 1);
    Due.due("men", x.count(0), 3);
    Due.due("the sayer", x.count(1), 1);
  }

  private static void man() {
    EldestSays x = Due.beach("m123;m698;");
    int[][] men = {{1, 2, 3}, {6, 9, 8}};
    for (int j = 0; j < 2; j++) {
      for (int what = 0; what < 3; what++) {
        Due.due("man(" + j + ", " + what + ")", x.man(j, what), men[j][what]);
      }
    }
    Due.due("man(2, 0)", x.man(2, 0), -1);
    Due.due("man(-1, 0)", x.man(-1, 0), -1);
    Due.due("man(-1, 9): nobody first", x.man(-1, 9), -1);
    Due.due("man(0, 3)", x.man(0, 3), -2);
    Due.due("man(0, -1)", x.man(0, -1), -2);
    Due.refusalsDue(x, 3, 2, 0, 0, 0);
  }

  private static void set() {
    EldestSays x = new EldestSays();
    int[] greatest = {99, 2, 1, 1, 99};
    int[] before = {10, 0, 0, 0, 10};
    for (int what = 0; what < 5; what++) {
      Due.due("set greatest " + what, x.set(what, greatest[what]), before[what]);
      Due.due("set above " + what, x.set(what, greatest[what] + 1), -6);
      Due.due("set below " + what, x.set(what, -1), -4);
      Due.due("set least " + what, x.set(what, 0), greatest[what]);
      Due.due("it was the least " + what, x.set(what, 1), 0);
    }
    Due.due("set(5, 0)", x.set(5, 0), -2);
    Due.due("set(-1, -1): what first", x.set(-1, -1), -2);
    Due.refusalsDue(x, 0, 2, 0, 5, 5);
    Due.tell(x, "m001;");
    Due.due("says", x.says(), 1);
    Due.due("set when done", x.set(0, 5), 1);
  }
}
