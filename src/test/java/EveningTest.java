/** Promises 13 to 17 and 27: row, judge, goes, says, got, clear. */
public final class EveningTest {
  public static void main(String[] args) {
    row();
    judge();
    judgeLater();
    goesCarried();
    goesAshore();
    goesRefused();
    says();
    saysLeavesTheRow();
    lastManAshore();
    got();
    Due.end();
  }

  private static void row() {
    EldestSays x = new EldestSays();
    Due.due("row(-1)", x.row(-1), -4);
    Due.due("row(100)", x.row(100), -6);
    for (int k = 1; k <= 8; k++) {
      Due.due("row " + k, x.row(k == 1 ? 0 : 99), k);
    }
    Due.due("a ninth", x.row(0), -6);
    Due.due("a ninth below", x.row(-1), -4);
    Due.due("in the row", x.count(5), 8);
    Due.refusalsDue(x, 0, 0, 0, 2, 2);
    Due.due("clear", x.clear(), 8);
    Due.due("clear again", x.clear(), 0);
    Due.due("none in the row", x.count(5), 0);
    Due.due("row anew", x.row(5), 1);
  }

  private static void judge() {
    EldestSays x = Due.beach("m001;m001;m001;");
    Due.due("no row", x.judge(1), 0);
    Due.tellRow(x, 9, 1);
    Due.due("too short", x.judge(1), 0);
    Due.tellRow(x, 9, 0, 1, 0);
    Due.due("too long", x.judge(1), 0);
    Due.tellRow(x, 9, 0, 0);
    Due.due("too few coins", x.judge(1), 0);
    Due.tellRow(x, 9, 1, 1);
    Due.due("too many coins", x.judge(1), 0);
    Due.tellRow(x, 9, 0, 1);
    Due.due("all as due", x.judge(5), -9);
    Due.due("one more as due, with bits of nobody", x.judge(5 + 8 + 1024), -9);
    Due.due("the sayer votes no", x.judge(4), 1);
    Due.due("the sayer too votes no", x.judge(2), 1);
    Due.due("nobody votes yes", x.judge(0), 1);
    Due.due("man 1 should vote no", x.judge(7), 2);
    Due.due("man 2 should vote yes", x.judge(1), 3);
    Due.due("both are odd: the first", x.judge(3), 2);
    Due.due("below 0", x.judge(-1), -4);
    Due.due("the row stays", x.count(5), 3);
    Due.refusalsDue(x, 0, 0, 0, 1, 0);
    Due.tellRow(x, 0, 10, 0);
    Due.due("ten are not enough for man 1", x.judge(1), -9);
    x.set(0, 99);
    Due.tellRow(x, 0, 99, 0);
    Due.due("coins count as they are set", x.judge(1), -9);
    EldestSays y = new EldestSays();
    Due.due("no men", y.judge(0), -3);
    Due.due("no men and below 0", y.judge(-1), -3);
    Due.tell(y, "m001;");
    y.says();
    Due.due("done", y.judge(1), -3);
    Due.refusalsDue(y, 0, 0, 3, 0, 0);
  }

  private static void judgeLater() {
    EldestSays x = Due.beach("m001;m001;m001;m001;");
    Due.tellRow(x, 10, 0, 0, 0);
    Due.due("not carried", x.goes(1), 0);
    Due.tellRow(x, 9, 0, 1);
    Due.due("bits are by men, not by places", x.judge(2 + 8), -9);
    Due.due("the place in the row", x.judge(2), 3);
    Due.due("the new sayer", x.judge(8), 1);
    Due.due("who is ashore has no vote", x.judge(1 + 2 + 8), -9);
  }

  private static void goesCarried() {
    EldestSays x = Due.beach("m001;m001;m001;");
    Due.tellRow(x, 2, 3, 5);
    Due.due("votes as told", x.goes(6), 1);
    Due.due("done", x.count(2), 1);
    Due.due("the row has none", x.count(5), 0);
    Due.due("the sayer", x.count(1), 0);
    Due.due("got(0)", x.got(0), 2);
    Due.due("got(1)", x.got(1), 3);
    Due.due("got(2)", x.got(2), 5);
    Due.due("weights left", x.count(3), 3);
    x = Due.beach("m001;m002;m003;l200;");
    Due.tellRow(x, 2, 3, 5);
    Due.due("four of six is two thirds", x.goes(5), 1);
    x = Due.beach("m001;m002;m003;l200;");
    Due.tellRow(x, 2, 3, 5);
    Due.due("three of six is not, nor bits of nobody", x.goes(3 + 8), 0);
  }

  private static void goesAshore() {
    EldestSays x = Due.beach("m001;m002;m003;");
    Due.tellRow(x, 10, 0, 0);
    Due.due("one of six", x.goes(1), 0);
    Due.due("not done", x.count(2), 0);
    Due.due("the next one says", x.count(1), 1);
    Due.due("weights left", x.count(3), 5);
    Due.due("the row has none", x.count(5), 0);
    Due.tellRow(x, 4, 6);
    Due.due("the vote of one ashore is not counted", x.goes(1 + 2), 0);
    Due.tellRow(x, 10);
    Due.due("the last one", x.goes(4), 1);
    Due.due("got(0)", x.got(0), -1);
    Due.due("got(1)", x.got(1), -1);
    Due.due("got(2)", x.got(2), 10);
    x = Due.beach("m001;m002;m003;");
    Due.tellRow(x, 10, 0, 0);
    Due.due("again", x.goes(1), 0);
    Due.tellRow(x, 4, 6);
    Due.due("bits are by men", x.goes(4), 1);
    Due.due("got from place 0", x.got(1), 4);
    Due.due("got from place 1", x.got(2), 6);
  }

  private static void goesRefused() {
    EldestSays x = new EldestSays();
    Due.due("no men", x.goes(-1), -3);
    Due.tell(x, "m001;m001;");
    Due.due("no row", x.goes(3), -3);
    Due.tellRow(x, 10);
    Due.due("too short", x.goes(3), -3);
    Due.tellRow(x, 10, 0, 0);
    Due.due("too long", x.goes(3), -3);
    Due.tellRow(x, 9, 0);
    Due.due("too few coins", x.goes(-1), -3);
    Due.due("the row stays", x.count(5), 2);
    Due.tellRow(x, 9, 1);
    Due.due("below 0", x.goes(-1), -4);
    Due.due("the row stays", x.count(5), 2);
    Due.due("carried", x.goes(3), 1);
    Due.tellRow(x, 9, 1);
    Due.due("done", x.goes(3), -3);
    Due.due("the row stays", x.count(5), 2);
    Due.refusalsDue(x, 0, 0, 6, 1, 0);
  }

  private static void says() {
    EldestSays x = Due.beach("m001;m001;l100;");
    Due.due("got before", x.got(0), 0);
    Due.due("not carried", x.says(), 0);
    Due.due("the sayer", x.count(1), 1);
    Due.due("not done", x.count(2), 0);
    Due.due("carried", x.says(), 1);
    Due.due("done", x.count(2), 1);
    Due.due("got(0)", x.got(0), -1);
    Due.due("got(1)", x.got(1), 10);
    Due.due("says when done", x.says(), -3);
    Due.due("says without men", new EldestSays().says(), -3);
    Due.refusalsDue(x, 0, 0, 1, 0, 0);
    x = Due.beach("m001;m001;m001;");
    Due.due("carried at once", x.says(), 1);
    Due.due("got(0)", x.got(0), 9);
    Due.due("got(1)", x.got(1), 0);
    Due.due("got(2)", x.got(2), 1);
    x.set(0, 50);
    Due.due("what was got stays", x.got(0), 9);
  }

  private static void saysLeavesTheRow() {
    EldestSays x = Due.beach("m001;m001;l100;");
    Due.tellRow(x, 5, 5);
    Due.due("says", x.says(), 0);
    Due.due("the row stays", x.count(5), 2);
  }

  private static void lastManAshore() {
    EldestSays x = Due.beach("m004;");
    Due.tellRow(x, 10);
    Due.due("he votes no himself", x.goes(0), 0);
    Due.due("done", x.count(2), 1);
    Due.due("no next sayer", x.count(1), 0);
    Due.due("nobody is left", x.count(3), 0);
    Due.due("got", x.got(0), -1);
    Due.due("says", x.says(), -3);
    x = Due.beach("m004;");
    Due.tellRow(x, 10);
    Due.due("he votes yes", x.goes(1), 1);
    Due.due("he is left", x.count(3), 4);
  }

  private static void got() {
    EldestSays x = Due.beach("m001;m001;m001;");
    Due.due("not done", x.got(1), 0);
    Due.due("got(3)", x.got(3), Due.REFUSED + 1);
    Due.due("got(-1)", x.got(-1), Due.REFUSED + 1);
    Due.tellRow(x, 10, 0, 0);
    Due.due("goes", x.goes(1), 0);
    Due.due("ashore before it is done", x.got(0), -1);
    Due.due("not done, not ashore", x.got(1), 0);
    Due.refusalsDue(x, 2, 0, 0, 0, 0);
  }
}
