import java.util.ArrayList;
import java.util.List;
import java.util.function.Supplier;

/**
 * The refusals of each promise: their numbers, their order, and that nothing changes by them.
 * What comes after a refused call is compared with a twin on which it was not made.
 */
public final class RefusalSentencesTest {
  private static final int LEAST = Integer.MIN_VALUE;
  private static final int GREATEST = Integer.MAX_VALUE;
  private static final int[] NO_MEN = {-1, 4, 7, 8, LEAST, GREATEST};

  /** A call that is to be refused. */
  private interface Call {
    long on(EldestSays x);
  }

  public static void main(String[] args) {
    feed();
    man();
    set();
    offered();
    price();
    ofOneMan();
    gets();
    row();
    judge();
    goes();
    says();
    got();
    alike();
    fewest();
    byLaw();
    swap();
    bestAge();
    league();
    shaken();
    seeds();
    restore();
    theFirstThatFits();
    nobody();
    other();
    state();
    below();
    room();
    lessThem();
    thoseWhoNeverRefuse();
    gains();
    howManyThereWere();
    Due.end();
  }

  // ---- four states, each with letters, a row and, but for the first, an image ----

  private static EldestSays empty() {
    EldestSays x = new EldestSays();
    Due.feed(x, "c4");
    Due.tellRow(x, 4, 6);
    return x;
  }

  private static EldestSays going() {
    EldestSays x = Due.beach("m001;m432;m121;m501;");
    x.image();
    Due.feed(x, "c4");
    Due.tellRow(x, 1, 2, 3, 4);
    return x;
  }

  private static EldestSays oneAshore() {
    EldestSays x = going();
    Due.putAshore(x);
    Due.tellRow(x, 2, 3, 5);
    return x;
  }

  private static EldestSays done() {
    EldestSays x = oneAshore();
    Due.due("carried", x.goes(14), 1);
    Due.tellRow(x, 2, 3, 5);
    return x;
  }

  private static void refused(String name, Supplier<EldestSays> made, int number, Call call) {
    refusedWith(name, made, number, number, call);
  }

  private static void refusedInt(String name, Supplier<EldestSays> made, int number, Call call) {
    refusedWith(name, made, number, Due.REFUSED - number, call);
  }

  private static void refusedLong(String name, Supplier<EldestSays> made, int number, Call call) {
    refusedWith(name, made, number, Due.REFUSED_LONG - number, call);
  }

  private static void refusedWith(
      String name, Supplier<EldestSays> made, int number, long answer, Call call) {
    EldestSays x = made.get();
    EldestSays twin = made.get();
    Due.due(name, call.on(x), answer);
    for (int n = 1; n <= 6; n++) {
      Due.due(name + ": refusals -" + n, x.count(10 + n) - twin.count(10 + n), n == -number ? 1 : 0);
    }
    Due.due(name + ": nothing changes", whatComes(x).equals(whatComes(twin)) ? 1 : 0, 1);
  }

  /** All that an object has and would do: the last calls use up its letters, row and image. */
  private static List<Long> whatComes(EldestSays x) {
    List<Long> all = new ArrayList<>();
    look(x, all);
    all.add((long) x.judge(7));
    all.add((long) x.goes(15));
    look(x, all);
    x.feed(';');
    all.add((long) x.beach());
    look(x, all);
    all.add((long) x.restore());
    look(x, all);
    return all;
  }

  private static void look(EldestSays x, List<Long> all) {
    for (int what = 0; what <= 6; what++) {
      all.add((long) x.count(what));
    }
    for (int what = 0; what <= 4; what++) {
      int v = x.set(what, 0);
      x.set(what, v);
      all.add((long) v);
    }
    for (int i = 0; i < x.count(0); i++) {
      all.add((long) x.man(i, 0) * 100 + x.man(i, 1) * 10 + x.man(i, 2));
      all.add((long) x.got(i));
      all.add((long) x.votes(i));
      all.add((long) x.bought(i));
      all.add((long) x.gets(0, i));
    }
  }

  // ---- the promises ----

  private static void feed() {
    Due.by("A letter comes: how many there are. -4; -6 (255; 64, too).");
    EldestSays x = new EldestSays();
    Due.due("the least", x.feed(0), 1);
    Due.due("the greatest", x.feed(255), 2);
    refused("feed(-1)", RefusalSentencesTest::going, -4, o -> o.feed(-1));
    refused("feed(least)", RefusalSentencesTest::going, -4, o -> o.feed(LEAST));
    refused("feed(256)", RefusalSentencesTest::going, -6, o -> o.feed(256));
    refused("feed(greatest)", RefusalSentencesTest::empty, -6, o -> o.feed(GREATEST));
    refused("a 65th", RefusalSentencesTest::fullOfLetters, -6, o -> o.feed(';'));
    refused("a 65th above", RefusalSentencesTest::fullOfLetters, -6, o -> o.feed(256));
    refused("a 65th below", RefusalSentencesTest::fullOfLetters, -4, o -> o.feed(-1));
  }

  private static EldestSays fullOfLetters() {
    EldestSays x = Due.beach("m001;m432;m121;m501;");
    Due.feed(x, "c9;".repeat(20) + "c77;");
    return x;
  }

  private static void man() {
    Due.by("Of a man: KIND (what 0), FIGURE (1), WEIGHT (2). -1; -2.");
    for (int j : NO_MEN) {
      refused("man(" + j + ", 0)", RefusalSentencesTest::going, -1, o -> o.man(j, 0));
      refused("man(" + j + ", 3)", RefusalSentencesTest::going, -1, o -> o.man(j, 3));
    }
    int[] others = {-1, 3, LEAST, GREATEST};
    for (int what : others) {
      refused("man(0, " + what + ")", RefusalSentencesTest::going, -2, o -> o.man(0, what));
    }
    refused("man(0, 0) of none", RefusalSentencesTest::empty, -1, o -> o.man(0, 0));
    Due.due("who is ashore is a man", oneAshore().man(0, 2), 1);
  }

  private static void set() {
    Due.by("A SETTING: what it was. -2; -4; -6.");
    int[] greatest = {99, 2, 1, 1, 99};
    for (int k = 0; k < greatest.length; k++) {
      int what = k;
      String name = "set(" + what + ", ..";
      refused(name + "-1)", RefusalSentencesTest::going, -4, o -> o.set(what, -1));
      refused(name + "least)", RefusalSentencesTest::done, -4, o -> o.set(what, LEAST));
      refused(name + "one more)", RefusalSentencesTest::going, -6, o -> o.set(what, greatest[what] + 1));
      refused(name + "greatest)", RefusalSentencesTest::empty, -6, o -> o.set(what, GREATEST));
    }
    int[] others = {-1, 5, LEAST, GREATEST};
    int[] values = {-1, 0, 100};
    for (int what : others) {
      for (int v : values) {
        refused("set(" + what + ", " + v + ")", RefusalSentencesTest::going, -2, o -> o.set(what, v));
      }
    }
    Due.due("also when it is done", done().set(4, 5), 10);
  }

  private static void offered() {
    Due.by("OFFERED. -1 either (j is older than i, too).");
    for (int j : NO_MEN) {
      refused("offered(" + j + ", 3)", RefusalSentencesTest::going, -1, o -> o.offered(j, 3));
      refused("offered(0, " + j + ")", RefusalSentencesTest::going, -1, o -> o.offered(0, j));
      refused("offered twice " + j, RefusalSentencesTest::going, -1, o -> o.offered(j, j));
    }
    refused("offered(1, 0)", RefusalSentencesTest::going, -1, o -> o.offered(1, 0));
    refused("offered(3, 2)", RefusalSentencesTest::done, -1, o -> o.offered(3, 2));
    refused("offered(0, 0) of none", RefusalSentencesTest::empty, -1, o -> o.offered(0, 0));
    Due.due("one who is ashore would have offered", oneAshore().offered(0, 0) >= 0 ? 1 : 0, 1);
  }

  private static void price() {
    Due.by("PRICE; -9. -1 either.");
    for (int j : NO_MEN) {
      refused("price(" + j + ", 3)", RefusalSentencesTest::going, -1, o -> o.price(j, 3));
      refused("price(3, " + j + ")", RefusalSentencesTest::going, -1, o -> o.price(3, j));
      refused("price twice " + j, RefusalSentencesTest::going, -1, o -> o.price(j, j));
    }
    refused("price(0, 0) of none", RefusalSentencesTest::empty, -1, o -> o.price(0, 0));
    EldestSays x = going();
    Due.due("older", x.price(3, 0), -9);
    Due.due("himself", x.price(3, 3), -9);
    Due.refusalsDue(x, 0, 0, 0, 0, 0);
  }

  private static void ofOneMan() {
    Due.by("VOTES. -1.");
    nobodyRefused("votes", (x, i) -> x.votes(i));
    Due.by("CARRIES: 1, 0. -1.");
    nobodyRefused("carries", (x, i) -> x.carries(i));
    Due.by("ENDS. -1.");
    nobodyRefused("ends", (x, i) -> x.ends(i));
    Due.by("BOUGHT; -9. -1.");
    nobodyRefused("bought", (x, i) -> x.bought(i));
  }

  /** A call that asks for a man. */
  private interface CallOfMan {
    long on(EldestSays x, int i);
  }

  private static void nobodyRefused(String name, CallOfMan call) {
    for (int i : NO_MEN) {
      refused(name + "(" + i + ")", RefusalSentencesTest::going, -1, o -> call.on(o, i));
      refused(name + "(" + i + ") done", RefusalSentencesTest::done, -1, o -> call.on(o, i));
    }
    refused(name + "(0) of none", RefusalSentencesTest::empty, -1, o -> call.on(o, 0));
    EldestSays x = done();
    Due.due(name + " of one ashore", call.on(x, 0), call.on(going(), 0));
    Due.due(name + " of the last", call.on(x, 3), call.on(going(), 3));
    Due.refusalsDue(x, 0, 0, 0, 0, 0);
  }

  private static void gets() {
    Due.by("GETS. Refused as told: -1 either (j is older than i, too).");
    for (int j : NO_MEN) {
      refusedInt("gets(" + j + ", 3)", RefusalSentencesTest::going, -1, o -> o.gets(j, 3));
      refusedInt("gets(0, " + j + ")", RefusalSentencesTest::going, -1, o -> o.gets(0, j));
      refusedInt("gets twice " + j, RefusalSentencesTest::going, -1, o -> o.gets(j, j));
    }
    refusedInt("gets(1, 0)", RefusalSentencesTest::going, -1, o -> o.gets(1, 0));
    refusedInt("gets(3, 2)", RefusalSentencesTest::done, -1, o -> o.gets(3, 2));
    refusedInt("gets(0, 0) of none", RefusalSentencesTest::empty, -1, o -> o.gets(0, 0));
  }

  private static void row() {
    Due.by("One more of the ROW: how many. -4; -6 (99; 8, too).");
    EldestSays x = new EldestSays();
    Due.due("the least", x.row(0), 1);
    Due.due("the greatest", x.row(99), 2);
    refused("row(-1)", RefusalSentencesTest::oneAshore, -4, o -> o.row(-1));
    refused("row(least)", RefusalSentencesTest::empty, -4, o -> o.row(LEAST));
    refused("row(100)", RefusalSentencesTest::oneAshore, -6, o -> o.row(100));
    refused("row(greatest)", RefusalSentencesTest::done, -6, o -> o.row(GREATEST));
    refused("a ninth", RefusalSentencesTest::fullRow, -6, o -> o.row(0));
    refused("a ninth above", RefusalSentencesTest::fullRow, -6, o -> o.row(100));
    refused("a ninth below", RefusalSentencesTest::fullRow, -4, o -> o.row(-1));
    x = done();
    Due.due("also when it is done", x.row(5), 4);
  }

  private static EldestSays fullRow() {
    EldestSays x = Due.beach("m001;".repeat(8));
    Due.tellRow(x, 1, 2, 3, 4, 0, 0, 0, 0);
    return x;
  }

  private static void judge() {
    Due.by("JUDGED with VOTES (the ROW stays); -9. -3; -4 votes below 0.");
    int[] votes = {-1, 0, 3, LEAST, GREATEST};
    for (int v : votes) {
      refused("judge(" + v + ") of none", RefusalSentencesTest::empty, -3, o -> o.judge(v));
      refused("judge(" + v + ") done", RefusalSentencesTest::done, -3, o -> o.judge(v));
    }
    refused("judge(-1)", RefusalSentencesTest::going, -4, o -> o.judge(-1));
    refused("judge(least)", RefusalSentencesTest::oneAshore, -4, o -> o.judge(LEAST));
    refused("judge(-1) of no row", RefusalSentencesTest::withoutRow, -4, o -> o.judge(-1));
    EldestSays x = going();
    Due.due("it stays", x.judge(1) >= -9 ? x.count(5) : 0, 4);
    Due.due("judged again", x.judge(1), going().judge(1));
    Due.due("of no row", withoutRow().judge(0), 0);
  }

  private static EldestSays withoutRow() {
    EldestSays x = going();
    x.clear();
    return x;
  }

  private static void goes() {
    Due.by("GOES with VOTES (the ROW has none then): 1 it is CARRIED, 0 not. -3 (the ROW is not as"
        + " many as are left, or not COINS together, too); -4 votes below 0.");
    int[] votes = {-1, 0, 15, LEAST};
    for (int v : votes) {
      refused("goes(" + v + ") of none", RefusalSentencesTest::empty, -3, o -> o.goes(v));
      refused("goes(" + v + ") done", RefusalSentencesTest::done, -3, o -> o.goes(v));
      refused("goes(" + v + ") no row", RefusalSentencesTest::withoutRow, -3, o -> o.goes(v));
      refused("goes(" + v + ") short", () -> withRow(1, 2, 7), -3, o -> o.goes(v));
      refused("goes(" + v + ") long", () -> withRow(1, 2, 3, 4, 0), -3, o -> o.goes(v));
      refused("goes(" + v + ") too few", () -> withRow(1, 2, 3, 3), -3, o -> o.goes(v));
      refused("goes(" + v + ") too many", () -> withRow(1, 2, 3, 5), -3, o -> o.goes(v));
    }
    refused("goes(-1)", RefusalSentencesTest::going, -4, o -> o.goes(-1));
    refused("goes(least)", RefusalSentencesTest::oneAshore, -4, o -> o.goes(LEAST));
    EldestSays x = going();
    Due.due("not", x.goes(0), 0);
    Due.due("the row has none", x.count(5), 0);
    x = going();
    Due.due("carried", x.goes(GREATEST), 1);
    Due.due("the row has none", x.count(5), 0);
  }

  private static EldestSays withRow(int... coins) {
    EldestSays x = going();
    Due.tellRow(x, coins);
    return x;
  }

  private static void says() {
    Due.by("SAYS: 1 it is CARRIED, 0 not. -3.");
    refused("says() of none", RefusalSentencesTest::empty, -3, o -> o.says());
    refused("says() done", RefusalSentencesTest::done, -3, o -> o.says());
    refused("says() when nobody is left", RefusalSentencesTest::nobodyLeft, -3, o -> o.says());
  }

  private static EldestSays nobodyLeft() {
    EldestSays x = Due.beach("m001;m001;");
    Due.putAshore(x);
    Due.putAshore(x);
    return x;
  }

  private static void got() {
    Due.by("GOT. Refused as told: -1.");
    for (int j : NO_MEN) {
      refusedInt("got(" + j + ")", RefusalSentencesTest::going, -1, o -> o.got(j));
      refusedInt("got(" + j + ") done", RefusalSentencesTest::done, -1, o -> o.got(j));
    }
    refusedInt("got(0) of none", RefusalSentencesTest::empty, -1, o -> o.got(0));
  }

  private static void alike() {
    Due.by("ALIKE, what 0: whether the eldest carries it; else what the k-th gets. Refused as told:"
        + " -4 (n, c, k); -6 (60; 99; k n or more).");
    int[][] below = {
      {0, 5, 0}, {LEAST, 5, 0}, {5, -1, 0}, {5, LEAST, 0}, {5, 5, -1}, {5, 5, LEAST},
      {61, -1, 0}, {61, 5, -1}, {5, 100, -1}, {0, 100, 0}, {0, 5, 99}, {5, -1, 5},
    };
    int[][] above = {
      {61, 5, 0}, {GREATEST, 5, 0}, {5, 100, 0}, {5, GREATEST, 0}, {5, 5, 5}, {5, 5, 6},
      {5, 5, GREATEST}, {1, 0, 1}, {60, 99, 60},
    };
    for (int k = 0; k < 2; k++) {
      boolean carries = k == 0;
      for (int[] a : below) {
        refusedInt("alike(" + a[0] + ", " + a[1] + ", " + a[2], RefusalSentencesTest::going, -4,
            o -> o.alike(a[0], a[1], a[2], carries));
      }
      for (int[] a : above) {
        refusedInt("alike(" + a[0] + ", " + a[1] + ", " + a[2], RefusalSentencesTest::going, -6,
            o -> o.alike(a[0], a[1], a[2], carries));
      }
    }
    Due.due("also without men", empty().alike(60, 99, 59, true), 1);
    Due.due("also when it is done", done().alike(60, 99, 59, false), 0);
  }

  private static void fewest() {
    Due.by("FEWEST; -9. -3.");
    refused("fewest() of none", RefusalSentencesTest::empty, -3, o -> o.fewest());
    refused("fewest() done", RefusalSentencesTest::done, -3, o -> o.fewest());
    refused("fewest() when nobody is left", RefusalSentencesTest::nobodyLeft, -3, o -> o.fewest());
  }

  private static void byLaw() {
    Due.by("BY LAW. Refused as told: -2 LAW, TIE; -1 (older than THE SAYER, too); -3 it is DONE.");
    int[][] others = {
      {-1, 0, 1}, {3, 0, 1}, {LEAST, 0, 1}, {GREATEST, 0, 1}, {0, -1, 1}, {0, 2, 1}, {0, LEAST, 1},
      {0, GREATEST, 1}, {3, 2, 9}, {3, 0, -1}, {0, 2, 0},
    };
    for (int[] a : others) {
      String name = "byLaw(" + a[0] + ", " + a[1] + ", " + a[2] + ")";
      refusedInt(name, RefusalSentencesTest::oneAshore, -2, o -> o.byLaw(a[0], a[1], a[2]));
      refusedInt(name, RefusalSentencesTest::done, -2, o -> o.byLaw(a[0], a[1], a[2]));
      refusedInt(name, RefusalSentencesTest::empty, -2, o -> o.byLaw(a[0], a[1], a[2]));
    }
    for (int j : NO_MEN) {
      refusedInt("byLaw(0, 0, " + j, RefusalSentencesTest::oneAshore, -1, o -> o.byLaw(0, 0, j));
      refusedInt("byLaw(0, 0, " + j, RefusalSentencesTest::done, -1, o -> o.byLaw(0, 0, j));
    }
    refusedInt("one ashore", RefusalSentencesTest::oneAshore, -1, o -> o.byLaw(2, 1, 0));
    refusedInt("one ashore, done", RefusalSentencesTest::done, -1, o -> o.byLaw(2, 1, 0));
    refusedInt("of none", RefusalSentencesTest::empty, -1, o -> o.byLaw(2, 1, 0));
    refusedInt("the sayer, done", RefusalSentencesTest::done, -3, o -> o.byLaw(2, 1, 1));
    refusedInt("the last, done", RefusalSentencesTest::done, -3, o -> o.byLaw(0, 0, 3));
  }

  private static void swap() {
    Due.by("SWAP: 1. -1 either (one twice, too); -3 (it is DONE, too).");
    for (int j : NO_MEN) {
      refused("swap(" + j + ", 3)", RefusalSentencesTest::going, -1, o -> o.swap(j, 3));
      refused("swap(0, " + j + ")", RefusalSentencesTest::going, -1, o -> o.swap(0, j));
      refused("swap(0, " + j + ") done", RefusalSentencesTest::done, -1, o -> o.swap(0, j));
    }
    refused("swap(2, 2)", RefusalSentencesTest::going, -1, o -> o.swap(2, 2));
    refused("swap(2, 2) later", RefusalSentencesTest::oneAshore, -1, o -> o.swap(2, 2));
    refused("swap(0, 1) of none", RefusalSentencesTest::empty, -1, o -> o.swap(0, 1));
    refused("swap(2, 3) later", RefusalSentencesTest::oneAshore, -3, o -> o.swap(2, 3));
    refused("swap(2, 3) done", RefusalSentencesTest::done, -3, o -> o.swap(2, 3));
    refused("swap(0, 1) done, nobody ashore", RefusalSentencesTest::doneAtOnce, -3, o -> o.swap(0, 1));
  }

  private static EldestSays doneAtOnce() {
    EldestSays x = going();
    Due.due("carried at once", x.goes(15), 1);
    return x;
  }

  private static void bestAge() {
    Due.by("BEST AGE. -1.");
    nobodyRefused("bestAge", (x, i) -> x.bestAge(i));
  }

  private static void league() {
    Due.by("LEAGUE: 1, 0. -3; -1 bits of MEN that there are not, or not younger, or fewer than two.");
    int[] wrong = {0, 2, 8, 1, 3, 16, 14 + 16, 6 + (1 << 20), -1, -2, LEAST, 6 + LEAST, GREATEST};
    for (int men : wrong) {
      refused("league(" + men + ")", RefusalSentencesTest::going, -1, o -> o.league(men));
      refused("league(" + men + ") none", RefusalSentencesTest::empty, -3, o -> o.league(men));
      refused("league(" + men + ") done", RefusalSentencesTest::done, -3, o -> o.league(men));
    }
    refused("league(12) done", RefusalSentencesTest::done, -3, o -> o.league(12));
    refused("the sayer with others", RefusalSentencesTest::oneAshore, -1, o -> o.league(14));
    refused("one ashore with others", RefusalSentencesTest::oneAshore, -1, o -> o.league(13));
  }

  private static void shaken() {
    Due.by("SHAKEN, part 0 above, 1 below the line. Refused as told: -2; -3.");
    int[] others = {-1, 2, LEAST, GREATEST};
    for (int part : others) {
      refusedLong("shaken(" + part + ")", RefusalSentencesTest::going, -2, o -> o.shaken(part));
      refusedLong("shaken(" + part + ") none", RefusalSentencesTest::empty, -2, o -> o.shaken(part));
      refusedLong("shaken(" + part + ") done", RefusalSentencesTest::done, -2, o -> o.shaken(part));
    }
    for (int k = 0; k <= 1; k++) {
      int part = k;
      refusedLong("shaken(" + part + ") none", RefusalSentencesTest::empty, -3, o -> o.shaken(part));
      refusedLong("shaken(" + part + ") done", RefusalSentencesTest::done, -3, o -> o.shaken(part));
    }
  }

  private static void seeds() {
    Due.by("SEEDS. -1; -4; -6 30.");
    int[] numbers = {0, 1, 31, LEAST};
    for (int j : NO_MEN) {
      for (int n : numbers) {
        refused("seeds(" + j + ", " + n + ", 1)", RefusalSentencesTest::going, -1, o -> o.seeds(j, n, 1));
      }
    }
    refused("seeds(0, 0, 1) of none", RefusalSentencesTest::empty, -1, o -> o.seeds(0, 0, 1));
    refused("seeds(3, 0, 1)", RefusalSentencesTest::going, -4, o -> o.seeds(3, 0, 1));
    refused("seeds(3, least, 1)", RefusalSentencesTest::done, -4, o -> o.seeds(3, LEAST, 1));
    refused("seeds(3, 31, 1)", RefusalSentencesTest::going, -6, o -> o.seeds(3, 31, 1));
    refused("seeds(3, greatest, 1)", RefusalSentencesTest::done, -6, o -> o.seeds(3, GREATEST, 1));
  }

  private static void restore() {
    Due.by("It is RESTORED: how many MEN. -3 there is none.");
    refused("restore() of none", RefusalSentencesTest::empty, -3, o -> o.restore());
    refused("restore() with men", RefusalSentencesTest::fullRow, -3, o -> o.restore());
    refused("restore() done", RefusalSentencesTest::nobodyLeft, -3, o -> o.restore());
  }

  private static void theFirstThatFits() {
    Due.by("the first that fits in the order in which it tells them");
    refused("nobody, other", RefusalSentencesTest::going, -1, o -> o.man(9, 9));
    refused("other, below", RefusalSentencesTest::going, -2, o -> o.set(9, -1));
    refused("other, room", RefusalSentencesTest::going, -2, o -> o.set(9, 100));
    refused("state, below: judge", RefusalSentencesTest::done, -3, o -> o.judge(-1));
    refused("state, below: goes", RefusalSentencesTest::withoutRow, -3, o -> o.goes(-1));
    refusedInt("below, room: k, n", RefusalSentencesTest::going, -4, o -> o.alike(61, 5, -1, true));
    refusedInt("below, room: c, n", RefusalSentencesTest::going, -4, o -> o.alike(61, -1, 0, true));
    refusedInt("other, nobody", RefusalSentencesTest::going, -2, o -> o.byLaw(3, 0, 9));
    refusedInt("other, state", RefusalSentencesTest::done, -2, o -> o.byLaw(0, 2, 1));
    refusedInt("nobody, state", RefusalSentencesTest::done, -1, o -> o.byLaw(0, 0, 9));
    refused("nobody, state: swap", RefusalSentencesTest::done, -1, o -> o.swap(1, 1));
    refused("state, nobody: league", RefusalSentencesTest::done, -3, o -> o.league(1));
    refusedLong("other, state: shaken", RefusalSentencesTest::done, -2, o -> o.shaken(2));
    refused("nobody, below: seeds", RefusalSentencesTest::going, -1, o -> o.seeds(9, 0, 0));
    refused("nobody, room: seeds", RefusalSentencesTest::going, -1, o -> o.seeds(9, 31, 0));
    refused("below, room: feed", RefusalSentencesTest::fullOfLetters, -4, o -> o.feed(-1));
    refused("below, room: row", RefusalSentencesTest::fullRow, -4, o -> o.row(-1));
  }

  private static void nobody() {
    Due.by("-1 NOBODY: no such man.");
    refused("no man 8", RefusalSentencesTest::fullRow, -1, o -> o.votes(8));
    refused("no man -1", RefusalSentencesTest::fullRow, -1, o -> o.votes(-1));
    Due.due("man 0", fullRow().votes(0) >= 0 ? 1 : 0, 1);
    Due.due("man 7", fullRow().votes(7), 128);
  }

  private static void other() {
    Due.by("-2 OTHER: what, LAW, TIE.");
    refused("what of a man", RefusalSentencesTest::going, -2, o -> o.man(0, 3));
    refused("what of a setting", RefusalSentencesTest::going, -2, o -> o.set(5, 0));
    refusedLong("what of a fraction", RefusalSentencesTest::going, -2, o -> o.shaken(2));
    refusedInt("law", RefusalSentencesTest::going, -2, o -> o.byLaw(3, 1, 0));
    refusedInt("tie", RefusalSentencesTest::going, -2, o -> o.byLaw(2, 2, 0));
    Due.due("the greatest of both", going().byLaw(2, 1, 0) < Due.REFUSED ? 1 : 0, 1);
  }

  private static void state() {
    Due.by("-3 STATE: it is not as told (there are no MEN, it is DONE, too).");
    List<Supplier<EldestSays>> over = List.of(RefusalSentencesTest::empty, RefusalSentencesTest::done,
        RefusalSentencesTest::doneAtOnce, RefusalSentencesTest::nobodyLeft);
    for (Supplier<EldestSays> made : over) {
      refused("judge", made, -3, o -> o.judge(0));
      refused("goes", made, -3, o -> o.goes(0));
      refused("says", made, -3, o -> o.says());
      refused("fewest", made, -3, o -> o.fewest());
      refused("league", made, -3, o -> o.league(6));
      refusedLong("shaken", made, -3, o -> o.shaken(0));
    }
    Due.due("one man is enough: judge", Due.beach("m001;").judge(0), 0);
    Due.due("one man is enough: fewest", Due.beach("m001;").fewest(), 0);
    Due.due("one man is enough: shaken", Due.beach("m001;").shaken(0), 1);
    Due.due("one man is enough: says", Due.beach("m001;").says(), 1);
  }

  private static void below() {
    Due.by("-4 BELOW: a number below the least.");
    refused("a letter", RefusalSentencesTest::going, -4, o -> o.feed(-1));
    refused("a setting", RefusalSentencesTest::going, -4, o -> o.set(0, -1));
    refused("coins of the row", RefusalSentencesTest::going, -4, o -> o.row(-1));
    refused("votes judged", RefusalSentencesTest::going, -4, o -> o.judge(-1));
    refused("votes that decide", RefusalSentencesTest::going, -4, o -> o.goes(-1));
    refusedInt("alike men", RefusalSentencesTest::going, -4, o -> o.alike(0, 0, 0, true));
    refused("evenings", RefusalSentencesTest::going, -4, o -> o.seeds(0, 0, 0));
  }

  private static void room() {
    Due.by("-6 ROOM: a number above the greatest, no room.");
    refused("a letter", RefusalSentencesTest::going, -6, o -> o.feed(256));
    refused("letters", RefusalSentencesTest::fullOfLetters, -6, o -> o.feed('c'));
    refused("a setting", RefusalSentencesTest::going, -6, o -> o.set(0, 100));
    refused("coins of the row", RefusalSentencesTest::going, -6, o -> o.row(100));
    refused("the row", RefusalSentencesTest::fullRow, -6, o -> o.row(1));
    refusedInt("alike men", RefusalSentencesTest::going, -6, o -> o.alike(61, 0, 0, true));
    refused("evenings", RefusalSentencesTest::going, -6, o -> o.seeds(0, 31, 0));
  }

  private static void lessThem() {
    Due.by("Of gets(), got(), byLaw(), alike() 1000000000 less them");
    EldestSays x = done();
    Due.due("gets", x.gets(4, 4), 1000000001);
    Due.due("got", x.got(4), 1000000001);
    Due.due("byLaw, nobody", x.byLaw(0, 0, 4), 1000000001);
    Due.due("byLaw, other", x.byLaw(3, 0, 4), 1000000002);
    Due.due("byLaw, state", x.byLaw(0, 0, 3), 1000000003);
    Due.due("alike, below", x.alike(0, 0, 0, true), 1000000004);
    Due.due("alike, room", x.alike(61, 0, 0, true), 1000000006);
    Due.by("of longs 4000000000000000000 less them");
    Due.due("shaken, other", x.shaken(2), 4000000000000000002L);
    Due.due("shaken, state", x.shaken(1), 4000000000000000003L);
  }

  private static void gains() {
    Due.by("GAINS (bits).");
    Due.due("without men", empty().gains(), 0);
    int due = Due.beach("m001;m432;m121;m501;").gains();
    Due.due("while it goes on", going().gains(), due);
    Due.due("when one is ashore", oneAshore().gains(), due);
    Due.due("when it is done", done().gains(), due);
  }

  private static void thoseWhoNeverRefuse() {
    Due.by("the FAULT (nothing is counted)");
    List<Supplier<EldestSays>> states = List.of(RefusalSentencesTest::empty,
        RefusalSentencesTest::going, RefusalSentencesTest::oneAshore, RefusalSentencesTest::done);
    for (Supplier<EldestSays> made : states) {
      EldestSays x = made.get();
      Due.due("a fault", x.beach(), -1002);
      Due.due("another", x.beach(), -1000);
      Due.due("a wrong one", Due.told(x, "m700;"), -2000);
      x.gains();
      x.clear();
      x.clear();
      x.image();
      x.count(-1);
      x.count(7);
      x.count(10);
      x.count(17);
      Due.refusalsDue(x, 0, 0, 0, 0, 0);
    }
  }

  private static void howManyThereWere() {
    Due.by("nothing changes but how many there were");
    EldestSays x = new EldestSays();
    for (int k = 1; k <= 100; k++) {
      Due.due("nobody", x.votes(0), -1);
      Due.due("other", x.set(5, 0), -2);
      Due.due("state", x.says(), -3);
      Due.due("below", x.row(-1), -4);
      Due.due("room", x.feed(256), -6);
    }
    Due.by("An object is used for at most 512 calls after it has been made");
    Due.refusalsDue(x, 100, 100, 100, 100, 100);
  }
}
