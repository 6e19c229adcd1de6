import java.util.Random;

/** Runs of calls drawn by fixed seeds: each answer is compared with the model's. */
public final class ModelTest {
  private static final int RUNS = 3000;
  private static final int MOST_WRONG = 20;
  // The dearest step makes some 240 calls, and nothing is promised beyond the 512th.
  private static final int ENOUGH_CALLS = 250;
  private static final String[] CALLS = {
    "feed", "beach", "man", "set", "offered", "price", "votes", "carries", "ends", "gets",
    "bought", "row", "judge", "goes", "says", "got", "alike", "fewest", "byLaw", "gains",
    "swap", "bestAge", "league", "shaken", "seeds", "clear", "image", "restore", "count",
  };
  private static final int[] WILD = {
    -1, 0, 1, 2, 7, 8, 9, 10, 63, 64, 65, 99, 100, 255, 256, 1 << 30,
    Integer.MIN_VALUE, Integer.MAX_VALUE, -2, 60, 61, 30, 31,
  };
  private static int wrong = 0;

  private final Random random;
  private final EldestSays program = new EldestSays();
  private final Model model = new Model();
  private final StringBuilder story = new StringBuilder();
  private int calls = 0;

  private ModelTest(long seed) {
    random = new Random(seed);
  }

  public static void main(String[] args) {
    int runs = args.length > 0 ? Integer.parseInt(args[0]) : RUNS;
    long from = args.length > 1 ? Long.parseLong(args[1]) : 0;
    for (long seed = from; seed < from + runs && wrong < MOST_WRONG; seed++) {
      new ModelTest(seed).run();
    }
    Due.end();
  }

  private void run() {
    int plan = random.nextInt(4);
    for (int step = 0; calls < ENOUGH_CALLS && wrong < MOST_WRONG; step++) {
      if (step == 0 || random.nextInt(plan == 0 ? 8 : 25) == 0) {
        tell(beach());
      }
      switch (random.nextInt(6)) {
        case 0 -> call(CALLS[random.nextInt(CALLS.length)], wildArguments());
        case 1 -> tellRow();
        case 2 -> lookAtAll();
        default -> {
          String name = CALLS[random.nextInt(CALLS.length)];
          call(name, tameArguments(name));
        }
      }
    }
    for (int what = -1; what <= 17; what++) {
      call("count", what);
    }
  }

  private String beach() {
    StringBuilder text = new StringBuilder();
    int statements = 1 + random.nextInt(10);
    for (int k = 0; k < statements; k++) {
      text.append(statement());
    }
    if (random.nextInt(6) == 0) {
      int place = random.nextInt(text.length());
      char sign = random.nextInt(8) == 0
          ? (char) random.nextInt(256)
          : "mcl;0123456789/: M".charAt(random.nextInt(18));
      switch (random.nextInt(3)) {
        case 0 -> text.setCharAt(place, sign);
        case 1 -> text.insert(place, sign);
        default -> text.deleteCharAt(place);
      }
    }
    return text.toString();
  }

  private String statement() {
    boolean careful = random.nextInt(30) > 0;
    switch (random.nextInt(8)) {
      case 0:
        return "c" + (random.nextBoolean() ? random.nextInt(100) : random.nextInt(15)) + ";";
      case 1:
        return "l" + digit(careful ? 3 : 10) + digit(careful ? 2 : 10) + digit(careful ? 2 : 10)
            + ";";
      default:
        int kind = random.nextInt(3) == 0 ? 0 : digit(careful ? 7 : 10);
        int figure = random.nextInt(3) == 0 ? digit(3) : digit(10);
        int weight = random.nextBoolean() ? 1 : careful ? 1 + digit(9) : digit(10);
        return "m" + kind + figure + weight + ";";
    }
  }

  private int digit(int below) {
    return random.nextInt(below);
  }

  private void tell(String text) {
    for (int k = 0; k < text.length(); k++) {
      call("feed", text.charAt(k));
    }
    call("beach");
  }

  /** A row that fits more often than not, looked at and, at times, gone on with. */
  private void tellRow() {
    call("clear");
    int men = program.count(0);
    int left = men - program.count(1);
    int coins = program.set(0, 0);
    program.set(0, coins);
    for (int k = 0; k < left; k++) {
      int part = k == left - 1 ? coins : random.nextInt(Math.min(coins, 9) + 1);
      coins -= part;
      call("row", random.nextInt(30) == 0 ? random.nextInt(100) : part);
    }
    int votes = random.nextInt(1 << 9);
    call("judge", votes);
    if (men > 0 && program.count(2) == 0) {
      call("judge", program.votes(program.count(1)));
      call("judge", votes | 1 << program.count(1));
    }
    if (random.nextInt(4) == 0) {
      call("goes", votes);
    }
  }

  private void lookAtAll() {
    for (int i = 0; i < program.count(0); i++) {
      call("votes", i);
      call("ends", i);
      call("bought", i);
      call("got", i);
      for (int j = 0; j < program.count(0); j++) {
        call("offered", i, j);
        call("price", i, j);
        call("gets", i, j);
      }
    }
    call("shaken", 0);
    call("shaken", 1);
  }

  private int[] wildArguments() {
    int[] a = new int[4];
    for (int k = 0; k < a.length; k++) {
      a[k] = random.nextInt(4) == 0 ? random.nextInt() : WILD[random.nextInt(WILD.length)];
    }
    return a;
  }

  private int[] tameArguments(String name) {
    int men = Math.max(1, program.count(0));
    int one = random.nextInt(men);
    int two = random.nextInt(men);
    return switch (name) {
      case "feed" -> new int[] {"mcl;05".charAt(random.nextInt(6))};
      case "man" -> new int[] {one, digit(3)};
      case "set" -> setArguments();
      case "row" -> new int[] {digit(12)};
      case "judge", "goes" -> new int[] {digit(1 << men)};
      case "alike" -> alikeArguments();
      case "byLaw" -> new int[] {digit(3), digit(2), one};
      case "league" -> new int[] {digit(1 << men) & -2};
      case "shaken" -> new int[] {digit(2)};
      case "seeds" -> new int[] {one, 1 + digit(30), random.nextInt()};
      case "count" -> new int[] {digit(17)};
      default -> new int[] {one, two};
    };
  }

  private int[] setArguments() {
    int what = digit(5);
    int[] below = {digit(2) == 0 ? 100 : 16, 3, 2, 2, 100};
    return new int[] {what, digit(below[what])};
  }

  private int[] alikeArguments() {
    int n = 1 + digit(digit(2) == 0 ? 60 : 20);
    return new int[] {n, digit(digit(2) == 0 ? 100 : 12), digit(n), digit(3) == 0 ? 1 : 0};
  }

  private void call(String name, int... a) {
    calls++;
    long got = answer(name, a);
    long want = model.call(name, a);
    story.append(' ').append(name).append(java.util.Arrays.toString(a)).append('=').append(got);
    if (got != want) {
      wrong++;
      System.out.println("behind" + story);
    }
    Due.due(name + java.util.Arrays.toString(a), got, want);
  }

  private long answer(String name, int[] a) {
    EldestSays x = program;
    return switch (name) {
      case "feed" -> x.feed(a[0]);
      case "beach" -> x.beach();
      case "man" -> x.man(a[0], a[1]);
      case "set" -> x.set(a[0], a[1]);
      case "offered" -> x.offered(a[0], a[1]);
      case "price" -> x.price(a[0], a[1]);
      case "votes" -> x.votes(a[0]);
      case "carries" -> x.carries(a[0]);
      case "ends" -> x.ends(a[0]);
      case "gets" -> x.gets(a[0], a[1]);
      case "bought" -> x.bought(a[0]);
      case "row" -> x.row(a[0]);
      case "judge" -> x.judge(a[0]);
      case "goes" -> x.goes(a[0]);
      case "says" -> x.says();
      case "got" -> x.got(a[0]);
      case "alike" -> x.alike(a[0], a[1], a[2], a[3] != 0);
      case "fewest" -> x.fewest();
      case "byLaw" -> x.byLaw(a[0], a[1], a[2]);
      case "gains" -> x.gains();
      case "swap" -> x.swap(a[0], a[1]);
      case "bestAge" -> x.bestAge(a[0]);
      case "league" -> x.league(a[0]);
      case "shaken" -> x.shaken(a[0]);
      case "seeds" -> x.seeds(a[0], a[1], a[2]);
      case "clear" -> x.clear();
      case "image" -> x.image();
      case "restore" -> x.restore();
      default -> x.count(a[0]);
    };
  }
}
