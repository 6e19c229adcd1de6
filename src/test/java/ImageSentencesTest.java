/** The image, counts, and what promises say beside their refusals. */
public final class ImageSentencesTest {
  public static void main(String[] args) {
    newObject();
    feed();
    beach();
    clear();
    imageHasAll();
    imageHasNot();
    image();
    restore();
    countOfMen();
    countOfTheSayer();
    countOfDone();
    countOfWeights();
    countOfLetters();
    countOfTheRow();
    countOfThoseAshore();
    countOfRefusals();
    anotherWhat();
    Due.end();
  }

  private static void newObject() {
    Due.by("`EldestSays()`: No MEN.");
    EldestSays x = new EldestSays();
    Due.due("men", x.count(0), 0);
    Due.due("the first man", x.man(0, 0), -1);
    Due.due("image of nobody", x.image(), 0);
    Due.tell(x, "m001;");
    Due.due("another object has its own", new EldestSays().count(0), 0);
  }

  private static void feed() {
    Due.by("A letter comes: how many there are");
    EldestSays x = new EldestSays();
    Due.due("the first", x.feed('m'), 1);
    Due.due("the second", x.feed('0'), 2);
    Due.due("a fault", x.beach(), -1002);
    Due.due("the first again", x.feed('c'), 1);
  }

  private static void beach() {
    Due.by("The letters, which are no more then, are a BEACH: how many STATEMENTS; the FAULT");
    EldestSays x = new EldestSays();
    Due.due("statements", Due.told(x, "c1;c2;m001;"), 3);
    Due.due("no letters more", x.count(4), 0);
    Due.due("nothing is told twice", x.beach(), -1000);
    Due.due("one man", x.count(0), 1);
    Due.due("a fault", Due.told(x, "c1"), -1002);
    Due.due("no letters more", x.count(4), 0);
    Due.due("a wrong one", Due.told(x, "l300;"), -2000);
    Due.due("no letters more", x.count(4), 0);
    Due.due("old letters do not stay behind new ones", Due.told(x, "c1;"), 1);
  }

  private static void clear() {
    Due.by("The ROW has none then: how many it had");
    EldestSays x = Due.beach("m001;m001;");
    Due.due("none", x.clear(), 0);
    Due.tellRow(x, 10, 0);
    Due.due("two", x.clear(), 2);
    Due.due("none then", x.count(5), 0);
    Due.due("none again", x.clear(), 0);
    Due.tellRow(x, 0, 0, 0, 0, 0, 0, 0, 0);
    Due.due("full", x.clear(), 8);
    Due.due("the first again", x.row(4), 1);
    Due.due("and the second", x.row(6), 2);
    Due.due("carried", x.goes(3), 1);
    Due.due("what the old row had is gone", x.got(0), 4);
  }

  private static void imageHasAll() {
    Due.by("THE IMAGE: all that there is");
    EldestSays x = Due.beach("m123;m456;m689;c33;l211;");
    x.set(4, 44);
    Due.putAshore(x);
    Due.due("image", x.image(), 3);
    Due.tell(x, "m001;c1;l000;");
    x.set(4, 1);
    Due.due("it goes on", x.says() >= 0 ? 1 : 0, 1);
    Due.due("restore", x.restore(), 3);
    int[] men = {1, 2, 3, 4, 5, 6, 6, 8, 9};
    for (int k = 0; k < men.length; k++) {
      Due.due("man(" + k / 3 + ", " + k % 3 + ")", x.man(k / 3, k % 3), men[k]);
    }
    Due.due("the sayer", x.count(1), 1);
    Due.due("not done", x.count(2), 0);
    Due.due("who is ashore", x.got(0), -1);
    Due.due("who is not", x.got(1), 0);
    int[] settings = {33, 2, 1, 1, 44};
    for (int what = 0; what < settings.length; what++) {
      Due.due("setting " + what, x.set(what, 0), settings[what]);
    }
    x = Due.beach("m001;m001;m001;");
    Due.due("carried", x.says(), 1);
    Due.due("image when it is done", x.image(), 3);
    x.set(0, 50);
    Due.due("restore", x.restore(), 3);
    Due.due("done", x.count(2), 1);
    Due.due("what was got", x.got(0), 9);
    Due.due("what would be offered", x.offered(0, 0), 9);
    Due.due("no man more", Due.told(x, "m001;"), -2000);
  }

  private static void imageHasNot() {
    Due.by("THE IMAGE: all that there is, but it, letters, the ROW, REFUSALS");
    EldestSays x = Due.beach("m001;m001;");
    Due.feed(x, "c4");
    Due.tellRow(x, 4);
    Due.due("refused", x.votes(2), -1);
    Due.due("image", x.image(), 2);
    x.feed('2');
    x.row(6);
    Due.due("refused", x.votes(2), -1);
    Due.due("restore", x.restore(), 2);
    Due.due("letters stay", x.count(4), 3);
    Due.due("the row stays", x.count(5), 2);
    Due.due("refusals stay", x.count(11), 2);
    Due.due("the row goes on", x.goes(3), 1);
    Due.due("got", x.got(1), 6);
    x.feed(';');
    Due.due("the letters go on", x.beach(), 1);
    Due.due("coins", x.set(0, 10), 42);
    Due.due("the image stays", x.restore(), 2);
    Due.due("as it was taken", x.count(2), 0);
  }

  private static void image() {
    Due.by("THE IMAGE is taken: how many MEN");
    EldestSays x = new EldestSays();
    Due.due("nobody", x.image(), 0);
    Due.tell(x, "m001;m001;");
    Due.due("two", x.image(), 2);
    Due.due("what is taken later counts", x.restore(), 2);
    Due.due("nothing changes by it", x.count(0), 2);
    Due.tell(x, "m001;".repeat(6));
    Due.due("eight", x.image(), 8);
    Due.putAshore(x);
    Due.due("those ashore too", x.image(), 8);
  }

  private static void restore() {
    Due.by("It is RESTORED: how many MEN. -3 there is none");
    EldestSays x = Due.beach("m001;m001;l100;");
    Due.due("there is none", x.restore(), -3);
    Due.due("men stay", x.count(0), 2);
    x.image();
    Due.due("votes", x.votes(0), 1);
    x.set(1, 0);
    Due.due("carried", x.carries(0), 1);
    Due.due("restored", x.restore(), 2);
    Due.due("all is solved anew", x.carries(0), 0);
    Due.due("says", x.says(), 0);
    Due.due("says", x.says(), 1);
    Due.due("restored when it is done", x.restore(), 2);
    Due.due("not done", x.count(2), 0);
    Due.due("nobody is ashore", x.got(0), 0);
    Due.due("nobody got anything", x.got(1), 0);
    Due.due("a man more may come", Due.told(x, "m001;"), 1);
    Due.due("and is no more", x.restore(), 2);
    Due.due("the third is nobody", x.man(2, 0), -1);
  }

  private static void countOfMen() {
    Due.by("0 MEN, 1 THE SAYER");
    EldestSays x = new EldestSays();
    for (int n = 0; n <= 8; n++) {
      Due.due("men", x.count(0), n);
      Due.due("one more", Due.told(x, "m001;"), n < 8 ? 1 : -2000);
    }
    Due.putAshore(x);
    Due.due("those ashore too", x.count(0), 8);
  }

  private static void countOfTheSayer() {
    Due.by("1 THE SAYER");
    EldestSays x = Due.beach("m001;".repeat(8));
    for (int i = 0; i < 8; i++) {
      Due.due("the sayer", x.count(1), i);
      Due.putAshore(x);
    }
    Due.due("no other one than the last", x.count(1), 7);
  }

  private static void countOfDone() {
    Due.by("2 1 if it is DONE");
    EldestSays x = Due.beach("m001;m001;l100;");
    Due.due("at first", x.count(2), 0);
    Due.due("not carried", x.says(), 0);
    Due.due("still", x.count(2), 0);
    Due.due("carried", x.says(), 1);
    Due.due("then", x.count(2), 1);
  }

  private static void countOfWeights() {
    Due.by("3 all WEIGHTS of those left");
    EldestSays x = new EldestSays();
    Due.due("without men", x.count(3), 0);
    Due.tell(x, "m009;m005;m003;m001;");
    int[] left = {18, 9, 4, 1};
    for (int weights : left) {
      Due.due("weights", x.count(3), weights);
      Due.putAshore(x);
    }
    Due.due("nobody is left", x.count(3), 0);
    x = Due.beach("m009;m005;m003;m001;");
    Due.putAshore(x);
    Due.tellRow(x, 10, 0, 0);
    Due.due("carried", x.goes(14), 1);
    Due.due("when it is done", x.count(3), 9);
    Due.due("eight heavy ones", Due.beach("m009;".repeat(8)).count(3), 72);
  }

  private static void countOfLetters() {
    Due.by("4 letters");
    EldestSays x = new EldestSays();
    for (int k = 0; k < 64; k++) {
      Due.due("letters", x.count(4), k);
      x.feed('x');
    }
    Due.due("a 65th", x.feed('x'), -6);
    Due.due("letters", x.count(4), 64);
    x.beach();
    Due.due("none", x.count(4), 0);
  }

  private static void countOfTheRow() {
    Due.by("5 in the ROW");
    EldestSays x = new EldestSays();
    for (int k = 0; k < 8; k++) {
      Due.due("in the row", x.count(5), k);
      x.row(k);
    }
    Due.due("a ninth", x.row(8), -6);
    Due.due("in the row", x.count(5), 8);
    Due.tell(x, "m001;m001;");
    Due.due("says leaves it", x.says(), 1);
    Due.due("in the row", x.count(5), 8);
    x.clear();
    Due.due("none", x.count(5), 0);
  }

  private static void countOfThoseAshore() {
    Due.by("6 those ashore from THE SAYER on by what all say (0 if it is DONE, without MEN)");
    EldestSays x = new EldestSays();
    Due.due("without men", x.count(6), 0);
    // Each gives nothing to those after him, who ask for nine.
    Due.tell(x, "m401;" + "m491;".repeat(3) + "m499;c8;");
    int[] ashore = {4, 3, 2, 1, 0};
    for (int k = 0; k < 5; k++) {
      Due.due("ashore from " + k, x.count(6), ashore[k]);
      Due.due("says", x.says(), k == 4 ? 1 : 0);
    }
    Due.due("done", x.count(6), 0);
    x = Due.beach("m401;m491;m499;c8;");
    Due.due("two would be", x.count(6), 2);
    Due.tellRow(x, 8, 0, 0);
    Due.due("carried by told votes", x.goes(7), 1);
    Due.due("none when it is done", x.count(6), 0);
  }

  private static void countOfRefusals() {
    Due.by("11 .. 16 REFUSALS -1 .. -6");
    EldestSays x = new EldestSays();
    Due.refusalsDue(x, 0, 0, 0, 0, 0);
    x.votes(0);
    Due.refusalsDue(x, 1, 0, 0, 0, 0);
    x.set(9, 9);
    x.set(9, 9);
    Due.refusalsDue(x, 1, 2, 0, 0, 0);
    x.says();
    Due.refusalsDue(x, 1, 2, 1, 0, 0);
    x.feed(-1);
    Due.refusalsDue(x, 1, 2, 1, 1, 0);
    x.feed(256);
    Due.refusalsDue(x, 1, 2, 1, 1, 1);
    x.got(0);
    x.gets(0, 0);
    x.byLaw(9, 9, 9);
    x.shaken(0);
    x.alike(0, 0, 0, true);
    x.alike(61, 0, 0, true);
    Due.refusalsDue(x, 3, 3, 2, 2, 2);
  }

  private static void anotherWhat() {
    Due.by("-9 for another what");
    EldestSays x = new EldestSays();
    int[] others = {Integer.MIN_VALUE, -9, -1, 7, 8, 9, 10, 17, 18, Integer.MAX_VALUE};
    for (int what : others) {
      Due.due("count(" + what + ")", x.count(what), -9);
    }
    Due.refusalsDue(x, 0, 0, 0, 0, 0);
  }
}
