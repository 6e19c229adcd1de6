import java.math.BigInteger;
import java.util.ArrayList;
import java.util.List;
import java.util.regex.Pattern;

/**
 * The document told a second time, slowly and in another way: everything is worked out anew at
 * each call, by recursion and by looking at all sets, and refusals are exceptions.
 */
final class Model {
  private static final String STATEMENT = "(m[0-9]{3};|l[0-9]{3};|c[0-9]{1,2};)";
  private static final Pattern WHOLE = Pattern.compile(STATEMENT + "+", Pattern.DOTALL);
  private static final Pattern BEGUN =
      Pattern.compile(STATEMENT + "*(|[ml][0-9]{0,3}|c[0-9]{0,2})", Pattern.DOTALL);

  record Man(int kind, int figure, int weight) {}

  record State(List<Man> men, List<Integer> settings, int sayer, boolean done, List<Integer> got) {}

  /** One parting: who votes and buys how, for given men and settings. */
  record Game(List<Man> men, int coins, int law, int tie, int first) {
    boolean enough(int i, int ayes) {
      int all = 0;
      int yes = 0;
      for (int j = i; j < men.size(); j++) {
        all += men.get(j).weight();
        yes += (ayes & 1 << j) != 0 ? men.get(j).weight() : 0;
      }
      int no = all - yes;
      return law == 0 ? yes >= no : law == 1 ? yes > no : yes >= 2 * no;
    }

    int[] prices(int i, int[] otherwise) {
      int[] prices = new int[men.size()];
      for (int j = 0; j < prices.length; j++) {
        prices[j] = j <= i ? -9 : price(men.get(j), otherwise[j]);
      }
      return prices;
    }

    private int price(Man man, int otherwise) {
      int clever = tie == 1 ? Math.max(otherwise, 0) : otherwise + 1;
      int envious = otherwise < 0 ? clever : clever + 1;
      return switch (man.kind()) {
        case 0 -> clever;
        case 1, 3 -> Math.max(otherwise, 0);
        case 2 -> envious;
        case 4 -> man.figure();
        case 5 -> envious + man.figure();
        default -> man.figure() / 2;
      };
    }

    int ayes(int i, int[] offer, int[] prices) {
      int bits = 1 << i;
      for (int j = i + 1; j < prices.length; j++) {
        bits |= offer[j] >= prices[j] ? 1 << j : 0;
      }
      return bits;
    }

    int bought(int i, int[] prices) {
      int kind = men.get(i).kind();
      if (kind == 3 || kind == 4 || kind == 6) {
        return -9;
      }
      int free = ayes(i, new int[prices.length], prices);
      int best = -1;
      for (int set = 0; set < 1 << men.size(); set += 2 << i) {
        if (enough(i, set | free) && ahead(set, best, prices)) {
          best = set;
        }
      }
      return best < 0 || cost(best, prices) > coins ? -9 : best;
    }

    private boolean ahead(int set, int best, int[] prices) {
      if (best < 0 || cost(set, prices) != cost(best, prices)) {
        return best < 0 || cost(set, prices) < cost(best, prices);
      }
      for (int k = 0; k < men.size(); k++) {
        int j = first == 0 ? k : men.size() - 1 - k;
        boolean has = (set & 1 << j) != 0;
        if (has != ((best & 1 << j) != 0)) {
          return has;
        }
      }
      return false;
    }

    private static int cost(int set, int[] prices) {
      int sum = 0;
      for (int j = 0; j < prices.length; j++) {
        sum += (set & 1 << j) != 0 ? prices[j] : 0;
      }
      return sum;
    }

    int[] offer(int i, int[] prices) {
      int[] offer = new int[men.size()];
      Man man = men.get(i);
      int left = men.size() - i;
      int set = Math.max(0, bought(i, prices));
      offer[i] = coins;
      for (int k = 1; k < left; k++) {
        int j = man.kind() == 6 ? men.size() - k : i + k;
        int due = switch (man.kind()) {
          case 3 -> coins / left;
          case 4, 6 -> offer[i] >= man.figure() ? man.figure() : 0;
          default -> (set & 1 << j) != 0 ? prices[j] : 0;
        };
        offer[j] = due;
        offer[i] -= due;
      }
      return offer;
    }
  }

  /** What comes of a game, from the last man back. */
  static final class Solved {
    final int[][] offers;
    final int[][] shares;
    final int[][] prices;
    final int[] ayes;
    final int[] ends;
    final int[] bought;

    Solved(Game game) {
      int n = game.men().size();
      offers = new int[n][];
      shares = new int[n][];
      prices = new int[n][];
      ayes = new int[n];
      ends = new int[n];
      bought = new int[n];
      for (int i = n - 1; i >= 0; i--) {
        int[] otherwise = i + 1 < n ? shares[i + 1] : new int[n];
        prices[i] = game.prices(i, otherwise);
        bought[i] = game.bought(i, prices[i]);
        offers[i] = game.offer(i, prices[i]);
        ayes[i] = game.ayes(i, offers[i], prices[i]);
        boolean carried = game.enough(i, ayes[i]);
        ends[i] = carried ? i : ends[i + 1];
        shares[i] = (carried ? offers[i] : otherwise).clone();
        shares[i][i] = carried ? shares[i][i] : -1;
      }
    }
  }

  private static final class Refusal extends RuntimeException {
    private static final long serialVersionUID = 1L;
    final int number;

    Refusal(int number) {
      super(null, null, false, false);
      this.number = number;
    }
  }

  private interface Call {
    long answer();
  }

  private State state =
      new State(List.of(), List.of(10, 0, 0, 0, 10), 0, false, List.of());
  private State kept = null;
  private String letters = "";
  private List<Integer> row = new ArrayList<>();
  private final int[] refusals = new int[7];

  /** The answer to a call, told by its name and its arguments. */
  long call(String name, int... a) {
    try {
      return of(name, a).answer();
    } catch (Refusal refusal) {
      refusals[-refusal.number]++;
      return switch (name) {
        case "gets", "got", "byLaw", "alike" -> 1000000000L - refusal.number;
        case "shaken" -> 4000000000000000000L - refusal.number;
        default -> refusal.number;
      };
    }
  }

  private Call of(String name, int[] a) {
    return switch (name) {
      case "feed" -> () -> feed(a[0]);
      case "beach" -> this::beach;
      case "man" -> () -> man(a[0], a[1]);
      case "set" -> () -> set(a[0], a[1]);
      case "offered" -> () -> pair(a[0], a[1], true).offers[a[0]][a[1]];
      case "price" -> () -> pair(a[0], a[1], false).prices[a[0]][a[1]];
      case "votes" -> () -> solvedFor(a[0]).ayes[a[0]];
      case "carries" -> () -> solvedFor(a[0]).ends[a[0]] == a[0] ? 1 : 0;
      case "ends" -> () -> solvedFor(a[0]).ends[a[0]];
      case "gets" -> () -> pair(a[0], a[1], true).shares[a[0]][a[1]];
      case "bought" -> () -> solvedFor(a[0]).bought[a[0]];
      case "row" -> () -> row(a[0]);
      case "judge" -> () -> judge(a[0]);
      case "goes" -> () -> goes(a[0]);
      case "says" -> this::says;
      case "got" -> () -> got(a[0]);
      case "alike" -> () -> alike(a[0], a[1], a[2], a[3] != 0);
      case "fewest" -> this::fewest;
      case "byLaw" -> () -> byLaw(a[0], a[1], a[2]);
      case "gains" -> this::gains;
      case "swap" -> () -> swap(a[0], a[1]);
      case "bestAge" -> () -> bestAge(a[0]);
      case "league" -> () -> league(a[0]);
      case "shaken" -> () -> shaken(a[0]);
      case "seeds" -> () -> seeds(a[0], a[1], a[2]);
      case "clear" -> this::clear;
      case "image" -> this::image;
      case "restore" -> this::restore;
      default -> () -> count(a[0]);
    };
  }

  private int n() {
    return state.men().size();
  }

  private static void refuseIf(boolean wrong, int number) {
    if (wrong) {
      throw new Refusal(number);
    }
  }

  private void needMan(int j) {
    refuseIf(j < 0 || j >= n(), -1);
  }

  private void needGoingOn() {
    refuseIf(n() == 0 || state.done(), -3);
  }

  private Game game(List<Man> men, int coins, int law, int tie) {
    return new Game(men, coins, law, tie, state.settings().get(3));
  }

  private Game game(List<Man> men) {
    List<Integer> s = state.settings();
    return game(men, s.get(0), s.get(1), s.get(2));
  }

  Game game() {
    return game(state.men());
  }

  private Solved solvedFor(int i) {
    needMan(i);
    return new Solved(game());
  }

  private Solved pair(int i, int j, boolean inOrder) {
    needMan(i);
    needMan(j);
    refuseIf(inOrder && j < i, -1);
    return new Solved(game());
  }

  private long feed(int letter) {
    refuseIf(letter < 0, -4);
    refuseIf(letter > 255 || letters.length() == 64, -6);
    letters += (char) letter;
    return letters.length();
  }

  private long beach() {
    String text = letters;
    letters = "";
    if (!WHOLE.matcher(text).matches()) {
      int place = 0;
      while (place < text.length() && BEGUN.matcher(text.substring(0, place + 1)).matches()) {
        place++;
      }
      return -1000 - place;
    }
    List<Man> men = new ArrayList<>(state.men());
    List<Integer> settings = new ArrayList<>(state.settings());
    List<Integer> got = new ArrayList<>(state.got());
    int place = 0;
    String[] statements = text.split(";");
    for (String s : statements) {
      int[] d = s.substring(1).chars().map(c -> c - '0').toArray();
      if (s.charAt(0) == 'm') {
        if (d[0] > 6 || d[2] == 0 || men.size() == 8 || state.done()) {
          return -2000 - place;
        }
        men.add(new Man(d[0], d[1], d[2]));
        got.add(0);
      } else if (s.charAt(0) == 'l') {
        if (d[0] > 2 || d[1] > 1 || d[2] > 1) {
          return -2000 - place;
        }
        settings.set(1, d[0]);
        settings.set(2, d[1]);
        settings.set(3, d[2]);
      } else {
        settings.set(0, Integer.parseInt(s.substring(1)));
      }
      place += s.length() + 1;
    }
    state = new State(men, settings, state.sayer(), state.done(), got);
    return statements.length;
  }

  private long man(int j, int what) {
    needMan(j);
    refuseIf(what < 0 || what > 2, -2);
    Man man = state.men().get(j);
    return new int[] {man.kind(), man.figure(), man.weight()}[what];
  }

  private long set(int what, int v) {
    refuseIf(what < 0 || what > 4, -2);
    refuseIf(v < 0, -4);
    refuseIf(v > new int[] {99, 2, 1, 1, 99}[what], -6);
    List<Integer> settings = new ArrayList<>(state.settings());
    int before = settings.set(what, v);
    state = new State(state.men(), settings, state.sayer(), state.done(), state.got());
    return before;
  }

  private long row(int coins) {
    refuseIf(coins < 0, -4);
    refuseIf(coins > 99 || row.size() == 8, -6);
    row.add(coins);
    return row.size();
  }

  private boolean rowFits() {
    return row.size() == n() - state.sayer()
        && row.stream().mapToInt(c -> c).sum() == state.settings().get(0);
  }

  private long judge(int votes) {
    needGoingOn();
    refuseIf(votes < 0, -4);
    if (!rowFits()) {
      return 0;
    }
    Solved solved = new Solved(game());
    int s = state.sayer();
    for (int k = 0; k < row.size(); k++) {
      boolean yes = (votes & 1 << (s + k)) != 0;
      if (yes != (k == 0 || row.get(k) >= solved.prices[s][s + k])) {
        return k + 1;
      }
    }
    return -9;
  }

  private long goes(int votes) {
    needGoingOn();
    refuseIf(!rowFits(), -3);
    refuseIf(votes < 0, -4);
    List<Integer> offer = row;
    row = new ArrayList<>();
    return decide(votes, offer);
  }

  private long says() {
    needGoingOn();
    Solved solved = new Solved(game());
    List<Integer> offer = new ArrayList<>();
    for (int j = state.sayer(); j < n(); j++) {
      offer.add(solved.offers[state.sayer()][j]);
    }
    return decide(solved.ayes[state.sayer()], offer);
  }

  private long decide(int votes, List<Integer> offer) {
    int s = state.sayer();
    List<Integer> got = new ArrayList<>(state.got());
    boolean carried = game().enough(s, votes & (1 << n()) - 1);
    boolean done = carried || s == n() - 1;
    if (carried) {
      for (int k = 0; k < offer.size(); k++) {
        got.set(s + k, offer.get(k));
      }
    } else {
      got.set(s, -1);
    }
    state = new State(state.men(), state.settings(), done ? s : s + 1, done, got);
    return carried ? 1 : 0;
  }

  private long got(int j) {
    needMan(j);
    return state.got().get(j);
  }

  private long alike(int n, int c, int k, boolean carries) {
    refuseIf(n < 1 || c < 0 || k < 0, -4);
    refuseIf(n > 60 || c > 99 || k >= n, -6);
    List<Integer> s = state.settings();
    int[] shares = new Alike(n, c, s.get(1), s.get(2), s.get(3)).shares();
    return carries ? (shares[0] < 0 ? 0 : 1) : shares[k];
  }

  /** Buying by a table of the least cost for so many votes, man by man in the order of FIRST. */
  private record Alike(int n, int c, int law, int tie, int first) {
    int[] shares() {
      int[] shares = new int[n];
      for (int i = n - 1; i >= 0; i--) {
        int[] offer = buy(i, shares);
        if (offer == null) {
          shares[i] = -1;
        } else {
          shares = offer;
        }
      }
      return shares;
    }

    private int[] buy(int i, int[] otherwise) {
      int younger = n - 1 - i;
      int[] men = new int[younger];
      int[] prices = new int[younger];
      for (int k = 0; k < younger; k++) {
        men[k] = first == 0 ? i + 1 + k : n - 1 - k;
        int or = otherwise[men[k]];
        prices[k] = tie == 1 ? Math.max(0, or) : or + 1;
      }
      int need = 0;
      while (!enough(need + 1, n - i)) {
        need++;
      }
      // least[k][v]: the least cost of v votes or more from the men k and behind.
      int[][] least = new int[younger + 1][need + 1];
      for (int v = 1; v <= need; v++) {
        least[younger][v] = 1000000;
      }
      for (int k = younger - 1; k >= 0; k--) {
        for (int v = 0; v <= need; v++) {
          int with = prices[k] + least[k + 1][Math.max(0, v - 1)];
          least[k][v] = Math.min(with, least[k + 1][v]);
        }
      }
      if (least[0][need] > c) {
        return null;
      }
      int[] offer = new int[n];
      offer[i] = c - least[0][need];
      int v = need;
      for (int k = 0; k < younger; k++) {
        int with = prices[k] + least[k + 1][Math.max(0, v - 1)];
        if (with == least[k][v]) {
          offer[men[k]] = prices[k];
          v = Math.max(0, v - 1);
        }
      }
      return offer;
    }

    private boolean enough(int yes, int all) {
      return law == 0 ? yes * 2 >= all : law == 1 ? yes * 2 > all : yes * 3 >= all * 2;
    }
  }

  private long fewest() {
    needGoingOn();
    List<Integer> s = state.settings();
    for (int coins = 0; coins < 100; coins++) {
      Solved solved = new Solved(game(state.men(), coins, s.get(1), s.get(2)));
      if (solved.ends[state.sayer()] == state.sayer()) {
        return coins;
      }
    }
    return -9;
  }

  private long byLaw(int law, int tie, int j) {
    refuseIf(law < 0 || law > 2 || tie < 0 || tie > 1, -2);
    needMan(j);
    refuseIf(j < state.sayer(), -1);
    needGoingOn();
    Game game = game(state.men(), state.settings().get(0), law, tie);
    return new Solved(game).shares[state.sayer()][j];
  }

  private long gains() {
    if (n() == 8 || n() == 0) {
      return 0;
    }
    List<Man> more = new ArrayList<>(state.men());
    more.add(0, new Man(0, 0, 1));
    int[] before = new Solved(game()).shares[0];
    int[] after = new Solved(game(more)).shares[0];
    int bits = 0;
    for (int j = 0; j < n(); j++) {
      bits |= after[j + 1] > before[j] ? 1 << j : 0;
    }
    return bits;
  }

  private long swap(int one, int other) {
    needMan(one);
    needMan(other);
    refuseIf(one == other, -1);
    refuseIf(state.done() || state.sayer() > 0, -3);
    List<Man> men = new ArrayList<>(state.men());
    men.set(one, state.men().get(other));
    men.set(other, state.men().get(one));
    state = new State(men, state.settings(), state.sayer(), state.done(), state.got());
    return 1;
  }

  private long bestAge(int j) {
    needMan(j);
    int best = 0;
    int most = -2;
    for (int place = 0; place < n(); place++) {
      List<Man> men = new ArrayList<>(state.men());
      men.add(place, men.remove(j));
      int share = new Solved(game(men)).shares[0][place];
      if (share > most) {
        most = share;
        best = place;
      }
    }
    return best;
  }

  private long league(int men) {
    needGoingOn();
    int s = state.sayer();
    for (int bit = 0; bit < 32; bit++) {
      refuseIf((men >>> bit & 1) == 1 && (bit >= n() || bit <= s), -1);
    }
    refuseIf(Integer.bitCount(men) < 2, -1);
    int[] prices = new Solved(game()).prices[s];
    for (int set = 0; set < 1 << n(); set++) {
      boolean asOne = (set & men) == 0 || (set & men) == men;
      int cost = 0;
      for (int j = s + 1; j < n(); j++) {
        cost += (set & 1 << j) != 0 ? prices[j] : 0;
      }
      if (asOne && cost <= state.settings().get(0) && game().enough(s, set | 1 << s)) {
        return 1;
      }
    }
    return 0;
  }

  private long shaken(int part) {
    refuseIf(part != 0 && part != 1, -2);
    needGoingOn();
    int s = state.sayer();
    int ayes = new Solved(game()).ayes[s];
    BigInteger above = BigInteger.ZERO;
    for (int turned = 0; turned < 1 << n(); turned += 2 << s) {
      if (game().enough(s, ayes ^ turned)) {
        BigInteger chance = BigInteger.ONE;
        for (int j = s + 1; j < n(); j++) {
          int shake = state.settings().get(4);
          int hundredths = (turned & 1 << j) != 0 ? shake : 100 - shake;
          chance = chance.multiply(BigInteger.valueOf(hundredths));
        }
        above = above.add(chance);
      }
    }
    BigInteger below = BigInteger.valueOf(100).pow(n() - 1 - s);
    return (part == 0 ? above : below).divide(above.gcd(below)).longValueExact();
  }

  private long seeds(int m, int n, int z) {
    needMan(m);
    refuseIf(n < 1, -4);
    refuseIf(n > 30, -6);
    BigInteger seed = BigInteger.valueOf(z);
    long sum = 0;
    for (int evening = 0; evening < n; evening++) {
      List<Integer> order = new ArrayList<>();
      for (int j = 0; j < n(); j++) {
        order.add(j);
      }
      for (int k = n() - 1; k >= 1; k--) {
        seed = seed.multiply(BigInteger.valueOf(1103515245)).add(BigInteger.valueOf(12345));
        int bits = seed.mod(BigInteger.ONE.shiftLeft(31)).shiftRight(16).intValueExact();
        order.set(bits % (k + 1), order.set(k, order.get(bits % (k + 1))));
      }
      List<Man> men = order.stream().map(j -> state.men().get(j)).toList();
      sum += Math.max(0, new Solved(game(men)).shares[0][order.indexOf(m)]);
    }
    return sum;
  }

  private long clear() {
    int before = row.size();
    row = new ArrayList<>();
    return before;
  }

  private long image() {
    kept = state;
    return n();
  }

  private long restore() {
    refuseIf(kept == null, -3);
    state = kept;
    return n();
  }

  private long count(int what) {
    return switch (what) {
      case 0 -> n();
      case 1 -> state.sayer();
      case 2 -> state.done() ? 1 : 0;
      case 3 -> weightsLeft();
      case 4 -> letters.length();
      case 5 -> row.size();
      case 6 -> ashore();
      case 11, 12, 13, 14, 15, 16 -> refusals[what - 10];
      default -> -9;
    };
  }

  private long weightsLeft() {
    long sum = 0;
    for (int j = 0; j < n(); j++) {
      sum += state.got().get(j) == -1 ? 0 : state.men().get(j).weight();
    }
    return sum;
  }

  private long ashore() {
    return n() == 0 || state.done()
        ? 0
        : new Solved(game()).ends[state.sayer()] - state.sayer();
  }
}
