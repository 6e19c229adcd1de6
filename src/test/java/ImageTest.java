/** Promises 27 to 30: clear, image, restore, count. */
public final class ImageTest {
  public static void main(String[] args) {
    imageAndRestore();
    whatIsNotInIt();
    imageOfNobody();
    count();
    Due.end();
  }

  private static void imageAndRestore() {
    EldestSays x = Due.beach("m001;m423;l100;");
    Due.due("image", x.image(), 2);
    Due.due("swap", x.swap(0, 1), 1);
    Due.tell(x, "m501;c33;l211;");
    x.set(4, 77);
    Due.due("says", x.says() >= 0 ? 1 : 0, 1);
    Due.due("offered then", x.offered(2, 2), 33);
    Due.due("restore", x.restore(), 2);
    Due.rowDue("what he offers is as it was", Due.offer(x, 0), 8, 2);
    Due.due("men", x.count(0), 2);
    Due.due("man 0", x.man(0, 0), 0);
    Due.due("man 1", x.man(1, 1), 2);
    Due.due("the sayer", x.count(1), 0);
    Due.due("not done", x.count(2), 0);
    int[] settings = {10, 1, 0, 0, 10};
    for (int what = 0; what < 5; what++) {
      Due.due("setting " + what, x.set(what, settings[what]), settings[what]);
    }
    Due.rowDue("offer", Due.offer(x, 0), 8, 2);
    Due.due("says", x.says(), 1);
    Due.due("got", x.got(1), 2);
    Due.due("image when it is done", x.image(), 2);
    Due.due("again", x.restore(), 2);
    Due.due("done", x.count(2), 1);
    Due.due("got", x.got(0), 8);
    Due.due("twice", x.restore(), 2);
    x = Due.beach("m001;m001;l100;");
    Due.due("image before", x.image(), 2);
    Due.due("ashore", x.says(), 0);
    Due.due("the last", x.says(), 1);
    Due.due("restore", x.restore(), 2);
    Due.due("nobody is ashore", x.got(0), 0);
    Due.due("nobody got anything", x.got(1), 0);
    Due.due("swap is free again", x.swap(0, 1), 1);
  }

  private static void whatIsNotInIt() {
    EldestSays x = Due.beach("m001;");
    x.feed('c');
    x.row(3);
    Due.due("refused", x.votes(5), -1);
    Due.due("image", x.image(), 1);
    x.feed('5');
    x.row(4);
    Due.due("refused", x.votes(5), -1);
    Due.due("restore", x.restore(), 1);
    Due.due("letters stay", x.count(4), 2);
    Due.due("the row stays", x.count(5), 2);
    Due.due("refusals stay", x.count(11), 2);
    Due.due("clear", x.clear(), 2);
    x.feed(';');
    Due.due("the letters go on", x.beach(), 1);
    Due.due("coins", x.set(0, 1), 5);
  }

  private static void imageOfNobody() {
    EldestSays x = new EldestSays();
    Due.due("there is none", x.restore(), -3);
    Due.refusalsDue(x, 0, 0, 1, 0, 0);
    Due.due("image of nobody", x.image(), 0);
    Due.tell(x, "m001;m001;");
    Due.due("restore", x.restore(), 0);
    Due.due("men", x.count(0), 0);
    Due.due("votes", x.votes(0), -1);
    Due.due("once more", x.restore(), 0);
  }

  private static void count() {
    EldestSays x = Due.beach("m001;m001;m001;m004;l100;c0;");
    Due.due("men", x.count(0), 4);
    Due.due("weights", x.count(3), 7);
    // Without coins 3 is not to be had, and the others weigh too little without him.
    Due.due("ends from 1", x.ends(1), 3);
    Due.due("ends from 0", x.ends(0), 3);
    Due.due("ashore", x.count(6), 3);
    Due.due("says", x.says(), 0);
    Due.due("ashore from 1 on", x.count(6), 2);
    Due.due("the sayer", x.count(1), 1);
    Due.due("weights left", x.count(3), 6);
    x.feed('c');
    x.row(1);
    Due.due("letters", x.count(4), 1);
    Due.due("row", x.count(5), 1);
    Due.due("says", x.says(), 0);
    Due.due("says", x.says(), 0);
    Due.due("nobody more", x.count(6), 0);
    Due.due("says", x.says(), 1);
    Due.due("done", x.count(2), 1);
    Due.due("none when done", x.count(6), 0);
    Due.due("weights left", x.count(3), 4);
    Due.due("without men", new EldestSays().count(6), 0);
    int[] other = {-1, 7, 8, 9, 10, 17, 100, Integer.MIN_VALUE, Integer.MAX_VALUE};
    for (int what : other) {
      Due.due("count(" + what + ")", x.count(what), -9);
    }
    Due.refusalsDue(x, 0, 0, 0, 0, 0);
  }
}
