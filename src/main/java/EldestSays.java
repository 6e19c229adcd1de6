import java.util.Arrays;

/**
 * The eldest says how the coins are parted; whom too few votes follow is put ashore, and the
 * next one says. What each would say is solved from the last man back.
 */
public final class EldestSays {
  private static final int MOST_MEN = 8;
  private static final int MOST_COINS = 99;
  private static final int MOST_WEIGHT = 9;
  private static final int MOST_LETTERS = 64;
  private static final int GREATEST_LETTER = 255;
  private static final int MOST_ALIKE = 60;
  private static final int MOST_EVENINGS = 30;
  private static final int NO_PRICE = 1000;

  private static final int COINS = 0;
  private static final int LAW = 1;
  private static final int TIE = 2;
  private static final int FIRST = 3;
  private static final int SHAKE = 4;
  private static final int[] GREATEST = {99, 2, 1, 1, 99};

  private static final int GREATEST_KIND = 6;
  private static final int ASHORE = -1;
  private static final int NONE = -9;

  private static final int NOBODY = -1;
  private static final int OTHER = -2;
  private static final int STATE = -3;
  private static final int BELOW = -4;
  private static final int ROOM = -6;
  private static final int GREATEST_REFUSAL = 6;
  private static final int REFUSALS_FROM = 10;
  private static final int REFUSED = 1000000000;
  private static final long REFUSED_LONG = 4000000000000000000L;

  private final Plans plans;
  private final Plans trialPlans;
  private final Evening now;
  private final Evening trial;
  private final Evening kept = new Evening();
  private final Letters letters = new Letters();
  private final Crowd crowd;
  private final int[] order = new int[MOST_MEN];
  private final int[] told = new int[MOST_MEN];
  private final int[] refusals = new int[GREATEST_REFUSAL + 1];
  private final long[] chances = new long[MOST_MEN * MOST_WEIGHT + 1];
  private int toldSize;
  private boolean isKept;
  private boolean isStale = true;

  public EldestSays() {
    Clever clever = new Clever();
    Clever[] kinds = {
      clever, new Company(), new Envious(), new Fair(), new Fool(), new Spiteful(), new Meek()
    };
    plans = new Plans(kinds);
    trialPlans = new Plans(kinds);
    now = plans.evening;
    trial = trialPlans.evening;
    crowd = new Crowd(clever);
  }

  // ---- a beach told in letters, men, settings ----

  public int feed(int letter) {
    if (letter < 0) {
      return refuse(BELOW);
    }
    if (letter > GREATEST_LETTER || letters.isFull()) {
      return refuse(ROOM);
    }
    return letters.add((char) letter);
  }

  public int beach() {
    int answer = letters.fault(now);
    if (answer == 0) {
      answer = letters.tell(now);
      isStale = true;
    }
    letters.forget();
    return answer;
  }

  public int man(int man, int what) {
    if (!now.has(man)) {
      return refuse(NOBODY);
    }
    switch (what) {
      case 0:
        return now.kinds[man];
      case 1:
        return now.figures[man];
      case 2:
        return now.weights[man];
      default:
        return refuse(OTHER);
    }
  }

  public int set(int what, int v) {
    if (what < 0 || what >= GREATEST.length) {
      return refuse(OTHER);
    }
    if (v < 0) {
      return refuse(BELOW);
    }
    if (v > GREATEST[what]) {
      return refuse(ROOM);
    }
    int before = now.settings[what];
    now.settings[what] = v;
    isStale = true;
    return before;
  }

  // ---- what each would say ----

  public int offered(int i, int j) {
    return now.has(i) && now.has(j) && j >= i ? solved().offers[i][j] : refuse(NOBODY);
  }

  public int price(int i, int j) {
    if (!now.has(i) || !now.has(j)) {
      return refuse(NOBODY);
    }
    return j > i ? solved().prices[i][j] : NONE;
  }

  public int votes(int i) {
    return now.has(i) ? solved().ayes[i] : refuse(NOBODY);
  }

  public int carries(int i) {
    if (!now.has(i)) {
      return refuse(NOBODY);
    }
    return solved().enders[i] == i ? 1 : 0;
  }

  public int ends(int i) {
    return now.has(i) ? solved().enders[i] : refuse(NOBODY);
  }

  public int gets(int i, int j) {
    if (!now.has(i) || !now.has(j) || j < i) {
      return REFUSED - refuse(NOBODY);
    }
    return solved().shares[i][j];
  }

  public int bought(int i) {
    return now.has(i) ? solved().buys[i] : refuse(NOBODY);
  }

  // ---- the evening ----

  public int row(int coins) {
    if (coins < 0) {
      return refuse(BELOW);
    }
    if (coins > MOST_COINS || toldSize >= MOST_MEN) {
      return refuse(ROOM);
    }
    told[toldSize] = coins;
    toldSize++;
    return toldSize;
  }

  public int judge(int votes) {
    if (now.isOver()) {
      return refuse(STATE);
    }
    if (votes < 0) {
      return refuse(BELOW);
    }
    return isRowRight() ? firstOddVote(votes) : 0;
  }

  public int goes(int votes) {
    if (now.isOver() || !isRowRight()) {
      return refuse(STATE);
    }
    if (votes < 0) {
      return refuse(BELOW);
    }
    int answer = now.decide(votes, told, now.sayer);
    toldSize = 0;
    return answer;
  }

  public int says() {
    if (now.isOver()) {
      return refuse(STATE);
    }
    Plans p = solved();
    return now.decide(p.ayes[now.sayer], p.offers[now.sayer], 0);
  }

  public int got(int man) {
    return now.has(man) ? now.purses[man] : REFUSED - refuse(NOBODY);
  }

  // ---- what if ----

  public int alike(int n, int c, int k, boolean carries) {
    if (n < 1 || c < 0 || k < 0) {
      return REFUSED - refuse(BELOW);
    }
    if (n > MOST_ALIKE || c > MOST_COINS || k >= n) {
      return REFUSED - refuse(ROOM);
    }
    crowd.solve(n, c, now.settings);
    if (carries) {
      return crowd.shares[0] == ASHORE ? 0 : 1;
    }
    return crowd.shares[k];
  }

  public int fewest() {
    if (now.isOver()) {
      return refuse(STATE);
    }
    trial.copy(now);
    for (int coins = 0; coins <= MOST_COINS; coins++) {
      trial.settings[COINS] = coins;
      trialPlans.solve(now.sayer);
      if (trialPlans.enders[now.sayer] == now.sayer) {
        return coins;
      }
    }
    return NONE;
  }

  public int byLaw(int law, int tie, int j) {
    if (law < 0 || law > GREATEST[LAW] || tie < 0 || tie > GREATEST[TIE]) {
      return REFUSED - refuse(OTHER);
    }
    if (!now.has(j) || j < now.sayer) {
      return REFUSED - refuse(NOBODY);
    }
    if (now.isOver()) {
      return REFUSED - refuse(STATE);
    }
    trial.copy(now);
    trial.settings[LAW] = law;
    trial.settings[TIE] = tie;
    trialPlans.solve(now.sayer);
    return trialPlans.shares[now.sayer][j];
  }

  public int gains() {
    if (now.size == 0 || now.size >= MOST_MEN) {
      return 0;
    }
    trial.copy(now);
    trial.size = 0;
    trial.add(0, 0, 1);
    for (int j = 0; j < now.size; j++) {
      trial.add(now.kinds[j], now.figures[j], now.weights[j]);
    }
    trialPlans.solve(0);
    Plans p = solved();
    int bits = 0;
    for (int j = 0; j < now.size; j++) {
      if (trialPlans.shares[0][j + 1] > p.shares[0][j]) {
        bits |= 1 << j;
      }
    }
    return bits;
  }

  public int swap(int one, int other) {
    if (!now.has(one) || !now.has(other) || one == other) {
      return refuse(NOBODY);
    }
    if (now.isOver() || now.sayer > 0) {
      return refuse(STATE);
    }
    orderAsIs();
    order[one] = other;
    order[other] = one;
    seat();
    now.copy(trial);
    isStale = true;
    return 1;
  }

  public int bestAge(int man) {
    if (!now.has(man)) {
      return refuse(NOBODY);
    }
    int best = 0;
    int most = ASHORE;
    for (int place = 0; place < now.size; place++) {
      orderWith(man, place);
      seat();
      trialPlans.solve(0);
      if (trialPlans.shares[0][place] > most) {
        most = trialPlans.shares[0][place];
        best = place;
      }
    }
    return best;
  }

  public int league(int men) {
    if (now.isOver()) {
      return refuse(STATE);
    }
    int younger = (1 << now.size) - (2 << now.sayer);
    if ((men & ~younger) != 0 || Integer.bitCount(men) < 2) {
      return refuse(NOBODY);
    }
    return solved().canBuy(now.sayer, men) ? 1 : 0;
  }

  // ---- chances ----

  public long shaken(int part) {
    if (part < 0 || part > 1) {
      return REFUSED_LONG - refuse(OTHER);
    }
    if (now.isOver()) {
      return REFUSED_LONG - refuse(STATE);
    }
    long below = shakeVotes(solved().ayes[now.sayer]);
    long above = chanceCarried();
    long common = commonDivisor(above, below);
    if (common <= 0) {
      return 0;
    }
    return (part == 0 ? above : below) / common;
  }

  public int seeds(int man, int n, int z) {
    if (!now.has(man)) {
      return refuse(NOBODY);
    }
    if (n < 1) {
      return refuse(BELOW);
    }
    if (n > MOST_EVENINGS) {
      return refuse(ROOM);
    }
    int seed = z;
    int sum = 0;
    for (int evening = 0; evening < n; evening++) {
      seed = drawOrder(seed);
      seat();
      trialPlans.solve(0);
      sum += Math.max(0, trialPlans.shares[0][placeOf(man)]);
    }
    return sum;
  }

  // ---- the row, the image, counts ----

  public int clear() {
    int before = toldSize;
    toldSize = 0;
    return before;
  }

  public int image() {
    kept.copy(now);
    isKept = true;
    return now.size;
  }

  public int restore() {
    if (!isKept) {
      return refuse(STATE);
    }
    now.copy(kept);
    isStale = true;
    return now.size;
  }

  public int count(int what) {
    switch (what) {
      case 0:
        return now.size;
      case 1:
        return now.sayer;
      case 2:
        return now.isDone ? 1 : 0;
      case 3:
        return now.weightLeft();
      case 4:
        return letters.size;
      case 5:
        return toldSize;
      case 6:
        return now.isOver() ? 0 : solved().enders[now.sayer] - now.sayer;
      default:
        return countRefusals(what - REFUSALS_FROM);
    }
  }

  private int countRefusals(int number) {
    return number >= 1 && number <= GREATEST_REFUSAL ? refusals[number] : NONE;
  }

  private int refuse(int number) {
    if (number < 0 && number >= -GREATEST_REFUSAL) {
      refusals[-number]++;
    }
    return number;
  }

  private Plans solved() {
    if (isStale) {
      plans.solve(0);
      isStale = false;
    }
    return plans;
  }

  private boolean isRowRight() {
    if (toldSize != now.size - now.sayer) {
      return false;
    }
    int sum = 0;
    for (int k = 0; k < toldSize; k++) {
      sum += told[k];
    }
    return sum == now.settings[COINS];
  }

  private int firstOddVote(int votes) {
    int[] prices = solved().prices[now.sayer];
    for (int j = now.sayer; j < now.size; j++) {
      int place = j - now.sayer;
      boolean isDue = place == 0 || told[place] >= prices[j];
      boolean isYes = (votes >> j & 1) == 1;
      if (isDue != isYes) {
        return place + 1;
      }
    }
    return NONE;
  }

  private void orderAsIs() {
    for (int place = 0; place < now.size; place++) {
      order[place] = place;
    }
  }

  private void orderWith(int man, int place) {
    int next = 0;
    for (int p = 0; p < now.size; p++) {
      if (p == place) {
        order[p] = man;
      } else {
        if (next == man) {
          next++;
        }
        order[p] = next;
        next++;
      }
    }
  }

  private int drawOrder(int z) {
    int seed = z;
    orderAsIs();
    for (int k = now.size - 1; k >= 1; k--) {
      seed = seed * 1103515245 + 12345;
      int drawn = (seed & 0x7fffffff) / 65536 % (k + 1);
      int man = order[k];
      order[k] = order[drawn];
      order[drawn] = man;
    }
    return seed;
  }

  private int placeOf(int man) {
    int found = 0;
    for (int place = 0; place < now.size; place++) {
      if (order[place] == man) {
        found = place;
      }
    }
    return found;
  }

  private void seat() {
    trial.copy(now);
    for (int place = 0; place < now.size; place++) {
      int man = order[place];
      if (now.has(man)) {
        trial.kinds[place] = now.kinds[man];
        trial.figures[place] = now.figures[man];
        trial.weights[place] = now.weights[man];
      }
    }
  }

  /** Fills the chances of each weight of yes votes; answers what they are parts of. */
  private long shakeVotes(int ayes) {
    Arrays.fill(chances, 0L);
    chances[now.weights[now.sayer]] = 1;
    long whole = 1;
    for (int j = now.sayer + 1; j < now.size; j++) {
      int turned = now.settings[SHAKE];
      int yes = (ayes >> j & 1) == 1 ? 100 - turned : turned;
      addVoter(now.weights[j], yes);
      whole *= 100;
    }
    return whole;
  }

  private void addVoter(int weight, int yes) {
    // From above down, so that no chance is moved twice for the same man.
    for (int w = chances.length - 1; w >= 0; w--) {
      long before = w >= weight ? chances[w - weight] : 0;
      chances[w] = chances[w] * (100 - yes) + before * yes;
    }
  }

  private long chanceCarried() {
    int all = now.weightFrom(now.sayer);
    long sum = 0;
    for (int w = 0; w < chances.length; w++) {
      if (isEnough(now.settings[LAW], w, all)) {
        sum += chances[w];
      }
    }
    return sum;
  }

  private static long commonDivisor(long one, long two) {
    long a = one;
    long b = two;
    // Numbers below 2 to the 63rd need fewer than a hundred steps.
    for (int step = 0; step < 100 && b != 0; step++) {
      long rest = a % b;
      a = b;
      b = rest;
    }
    return a;
  }

  private static boolean isEnough(int law, int yes, int all) {
    switch (law) {
      case 0:
        return 2 * yes >= all;
      case 1:
        return 2 * yes > all;
      default:
        return 3 * yes >= 2 * all;
    }
  }

  /** The men, the settings, and how far the evening has come. */
  private static final class Evening {
    final int[] kinds = new int[MOST_MEN];
    final int[] figures = new int[MOST_MEN];
    final int[] weights = new int[MOST_MEN];
    final int[] purses = new int[MOST_MEN];
    final int[] settings = {10, 0, 0, 0, 10};
    int size;
    int sayer;
    boolean isDone;

    void copy(Evening from) {
      System.arraycopy(from.kinds, 0, kinds, 0, MOST_MEN);
      System.arraycopy(from.figures, 0, figures, 0, MOST_MEN);
      System.arraycopy(from.weights, 0, weights, 0, MOST_MEN);
      System.arraycopy(from.purses, 0, purses, 0, MOST_MEN);
      System.arraycopy(from.settings, 0, settings, 0, GREATEST.length);
      size = from.size;
      sayer = from.sayer;
      isDone = from.isDone;
    }

    boolean has(int man) {
      return man >= 0 && man < size;
    }

    boolean isOver() {
      return size == 0 || isDone;
    }

    void add(int kind, int figure, int weight) {
      if (size < MOST_MEN) {
        kinds[size] = kind;
        figures[size] = figure;
        weights[size] = weight;
        size++;
      }
    }

    int weightFrom(int i) {
      int sum = 0;
      for (int j = Math.max(0, i); j < size; j++) {
        sum += weights[j];
      }
      return sum;
    }

    int weightLeft() {
      // The last man may be ashore too, and is still the sayer then.
      return has(sayer) && purses[sayer] == ASHORE ? 0 : weightFrom(sayer);
    }

    boolean isCarried(int i, int ayes) {
      int yes = 0;
      for (int j = Math.max(0, i); j < size; j++) {
        if ((ayes >> j & 1) == 1) {
          yes += weights[j];
        }
      }
      return isEnough(settings[LAW], yes, weightFrom(i));
    }

    /** The offer's first place is that of the man called first. */
    int decide(int ayes, int[] offer, int first) {
      boolean carried = isCarried(sayer, ayes);
      if (carried) {
        part(offer, first);
      } else {
        putAshore();
      }
      return carried ? 1 : 0;
    }

    private void part(int[] offer, int first) {
      for (int j = sayer; j < size; j++) {
        int place = j - first;
        purses[j] = place >= 0 && place < offer.length ? offer[place] : 0;
      }
      isDone = true;
    }

    private void putAshore() {
      purses[sayer] = ASHORE;
      if (sayer + 1 < size) {
        sayer++;
      } else {
        isDone = true;
      }
    }
  }

  /** What each man of an evening would say, and what comes of it, from the last man back. */
  private static final class Plans {
    final int[][] offers = new int[MOST_MEN][MOST_MEN];
    final int[][] prices = new int[MOST_MEN][MOST_MEN];
    final int[][] shares = new int[MOST_MEN][MOST_MEN];
    final int[] ayes = new int[MOST_MEN];
    final int[] enders = new int[MOST_MEN];
    final int[] buys = new int[MOST_MEN];
    final Evening evening = new Evening();
    private final Clever[] kinds;
    private final int[] unitPrices = new int[MOST_MEN - 1];
    private final int[] unitWeights = new int[MOST_MEN - 1];
    private final int[] setPrices = new int[1 << (MOST_MEN - 1)];
    private final int[] setWeights = new int[1 << (MOST_MEN - 1)];
    private int units;
    private int freeWeight;

    Plans(Clever[] kinds) {
      this.kinds = kinds;
    }

    void solve(int from) {
      for (int i = evening.size - 1; i >= from && i >= 0; i--) {
        askYounger(i);
        keepAll(i);
        buys[i] = NONE;
        kindOf(i).tell(this, i);
        vote(i);
        end(i);
      }
    }

    private Clever kindOf(int man) {
      int kind = evening.kinds[man];
      return kinds[kind >= 0 && kind < kinds.length ? kind : 0];
    }

    private void askYounger(int i) {
      for (int j = i + 1; j < evening.size; j++) {
        int otherwise = shares[i + 1][j];
        prices[i][j] = kindOf(j).ask(otherwise, evening.figures[j], evening.settings[TIE]);
      }
    }

    private void keepAll(int i) {
      Arrays.fill(offers[i], 0);
      offers[i][i] = evening.settings[COINS];
    }

    private void vote(int i) {
      ayes[i] = 1 << i;
      for (int j = i + 1; j < evening.size; j++) {
        if (offers[i][j] >= prices[i][j]) {
          ayes[i] |= 1 << j;
        }
      }
    }

    private void end(int i) {
      boolean isLast = i + 1 >= evening.size;
      if (isLast || evening.isCarried(i, ayes[i])) {
        enders[i] = i;
        System.arraycopy(offers[i], 0, shares[i], 0, MOST_MEN);
      } else {
        enders[i] = enders[i + 1];
        System.arraycopy(shares[i + 1], 0, shares[i], 0, MOST_MEN);
        shares[i][i] = ASHORE;
      }
    }

    /** The cheapest set gets its prices, if the coins pay for it. */
    void buyCheapest(int i) {
      forgetUnits();
      int younger = evening.size - 1 - i;
      for (int unit = 0; unit < younger; unit++) {
        int j = manOfUnit(i, unit);
        addUnit(prices[i][j], evening.weights[j]);
      }
      int set = cheapestSet(i);
      if (set < 0 || setPrices[set] > evening.settings[COINS]) {
        return;
      }
      buys[i] = 0;
      for (int unit = 0; unit < units; unit++) {
        if ((set >> unit & 1) == 1) {
          int j = manOfUnit(i, unit);
          buys[i] |= 1 << j;
          offers[i][j] = unitPrices[unit];
        }
      }
      offers[i][i] -= setPrices[set];
    }

    /** Who is to be bought first has the highest unit: so the higher of two sets is ahead. */
    private int manOfUnit(int i, int unit) {
      return evening.settings[FIRST] == 0 ? evening.size - 1 - unit : i + 1 + unit;
    }

    private void forgetUnits() {
      units = 0;
      freeWeight = 0;
    }

    /** Who asks for nothing votes yes in every set: his weight counts beside the sets. */
    private void addUnit(int price, int weight) {
      if (units < unitPrices.length) {
        unitPrices[units] = price;
        unitWeights[units] = price > 0 ? weight : 0;
        freeWeight += price > 0 ? 0 : weight;
        units++;
      }
    }

    /** Of the sets of units with which it is carried the cheapest, of several the highest. */
    private int cheapestSet(int i) {
      int sets = listSets(evening.weights[i]);
      int all = evening.weightFrom(i);
      int best = NONE;
      for (int set = 0; set < sets; set++) {
        boolean isCheap = best < 0 || setPrices[set] <= setPrices[best];
        if (isCheap && isEnough(evening.settings[LAW], setWeights[set], all)) {
          best = set;
        }
      }
      return best;
    }

    private int listSets(int own) {
      setPrices[0] = 0;
      setWeights[0] = own + freeWeight;
      for (int unit = 0; unit < units; unit++) {
        int half = 1 << unit;
        for (int set = 0; set < half; set++) {
          setPrices[half + set] = setPrices[set] + unitPrices[unit];
          setWeights[half + set] = setWeights[set] + unitWeights[unit];
        }
      }
      return 1 << units;
    }

    /** Whether the coins pay for a set, if the men of the league are one unit. */
    boolean canBuy(int i, int league) {
      forgetUnits();
      int price = 0;
      int weight = 0;
      for (int j = i + 1; j < evening.size; j++) {
        if ((league >> j & 1) == 1) {
          price += prices[i][j];
          weight += evening.weights[j];
        } else {
          addUnit(prices[i][j], evening.weights[j]);
        }
      }
      addUnit(price, weight);
      int set = cheapestSet(i);
      return set >= 0 && setPrices[set] <= evening.settings[COINS];
    }

    void shareFairly(int i) {
      int left = evening.size - i;
      if (left <= 0) {
        return;
      }
      int each = evening.settings[COINS] / left;
      for (int j = i + 1; j < evening.size; j++) {
        give(i, j, each);
      }
    }

    void spreadFromEldest(int i, int figure) {
      for (int j = i + 1; j < evening.size; j++) {
        give(i, j, figure);
      }
    }

    void spreadFromYoungest(int i, int figure) {
      for (int j = evening.size - 1; j > i; j--) {
        give(i, j, figure);
      }
    }

    int figureOf(int i) {
      return evening.figures[i];
    }

    private void give(int i, int j, int coins) {
      if (offers[i][i] >= coins) {
        offers[i][j] = coins;
        offers[i][i] -= coins;
      }
    }
  }

  /** A clever man; the other kinds differ from the one they stand under. */
  private static class Clever {
    int ask(int otherwise, int figure, int tie) {
      int least = tie == 1 ? otherwise : otherwise + 1;
      return least > 0 ? least : 0;
    }

    void tell(Plans plans, int i) {
      plans.buyCheapest(i);
    }
  }

  private static class Company extends Clever {
    int ask(int otherwise, int figure, int tie) {
      return Math.max(0, otherwise);
    }
  }

  private static class Envious extends Clever {
    int ask(int otherwise, int figure, int tie) {
      int clever = super.ask(otherwise, figure, tie);
      return otherwise >= 0 ? clever + 1 : clever;
    }
  }

  private static final class Fair extends Company {
    void tell(Plans plans, int i) {
      plans.shareFairly(i);
    }
  }

  private static class Fool extends Clever {
    int ask(int otherwise, int figure, int tie) {
      return figure;
    }

    void tell(Plans plans, int i) {
      plans.spreadFromEldest(i, plans.figureOf(i));
    }
  }

  private static final class Spiteful extends Envious {
    int ask(int otherwise, int figure, int tie) {
      return super.ask(otherwise, figure, tie) + figure;
    }
  }

  private static final class Meek extends Fool {
    int ask(int otherwise, int figure, int tie) {
      return super.ask(otherwise, figure, tie) / 2;
    }

    void tell(Plans plans, int i) {
      plans.spreadFromYoungest(i, plans.figureOf(i));
    }
  }

  /** Many clever men with the same weight: too many for a look at every set. */
  private static final class Crowd {
    final int[] shares = new int[MOST_ALIKE];
    private final int[] asked = new int[MOST_ALIKE];
    private final int[] offer = new int[MOST_ALIKE];
    private final Clever clever;
    private int size;
    private int coins;

    Crowd(Clever clever) {
      this.clever = clever;
    }

    void solve(int n, int c, int[] settings) {
      size = Math.min(n, MOST_ALIKE);
      coins = c;
      for (int i = size - 1; i >= 0; i--) {
        int free = askYounger(i, settings[TIE]);
        int lack = votesLacking(1 + free, size - i, settings[LAW]);
        int spent = buyYounger(i, lack, settings[FIRST]);
        if (spent <= coins) {
          System.arraycopy(offer, 0, shares, 0, MOST_ALIKE);
          shares[i] = coins - spent;
        } else {
          shares[i] = ASHORE;
        }
      }
    }

    private int askYounger(int i, int tie) {
      int free = 0;
      for (int j = i + 1; j < size; j++) {
        asked[j] = clever.ask(shares[j], 0, tie);
        if (asked[j] == 0) {
          free++;
        }
      }
      return free;
    }

    private static int votesLacking(int yes, int left, int law) {
      int lack = 0;
      while (yes + lack < left && !isEnough(law, yes + lack, left)) {
        lack++;
      }
      return lack;
    }

    /** Fills the offer from the lowest price up; answers what it comes to. */
    private int buyYounger(int i, int lack, int first) {
      Arrays.fill(offer, 0);
      int spent = 0;
      int missing = lack;
      int level = 0;
      for (int round = 0; round < size && missing > 0 && spent <= coins; round++) {
        level = nextLevel(i, level);
        int taken = buyAtLevel(i, level, missing, first);
        spent += taken * level;
        missing -= taken;
      }
      return spent;
    }

    private int nextLevel(int i, int level) {
      int next = NO_PRICE;
      for (int j = i + 1; j < size; j++) {
        if (asked[j] > level) {
          next = Math.min(next, asked[j]);
        }
      }
      return next;
    }

    private int buyAtLevel(int i, int level, int missing, int first) {
      int taken = 0;
      int younger = size - 1 - i;
      for (int k = 0; k < younger && taken < missing; k++) {
        int j = first == 0 ? i + 1 + k : size - 1 - k;
        if (asked[j] == level) {
          offer[j] = level;
          taken++;
        }
      }
      return taken;
    }
  }

  /** The letters of a beach, as far as they have come. */
  private static final class Letters {
    int size;
    private final char[] signs = new char[MOST_LETTERS];

    boolean isFull() {
      return size >= MOST_LETTERS;
    }

    int add(char sign) {
      if (size < MOST_LETTERS) {
        signs[size] = sign;
        size++;
      }
      return size;
    }

    void forget() {
      size = 0;
    }

    /** The number of the fault, 0 if there is none. */
    int fault(Evening evening) {
      int broken = brokenAt();
      if (broken >= 0) {
        return -1000 - broken;
      }
      int wrong = wrongAt(evening);
      return wrong >= 0 ? -2000 - wrong : 0;
    }

    /** All of it comes: how many statements. */
    int tell(Evening evening) {
      int statements = 0;
      int start = 0;
      for (int place = 0; place < size; place++) {
        if (signs[place] == ';') {
          tellOne(evening, start, place);
          statements++;
          start = place + 1;
        }
      }
      return statements;
    }

    private int brokenAt() {
      boolean isStart = true;
      int must = 0;
      int may = 0;
      for (int place = 0; place < size; place++) {
        char sign = signs[place];
        if (isStart) {
          must = digitsOf(sign);
          may = sign == 'c' ? 1 : 0;
          isStart = false;
          if (must == 0) {
            return place;
          }
        } else if (isDigit(sign) && must > 0) {
          must--;
        } else if (isDigit(sign) && may > 0) {
          may--;
        } else if (sign == ';' && must == 0) {
          isStart = true;
        } else {
          return place;
        }
      }
      return size > 0 && isStart ? NONE : size;
    }

    private static int digitsOf(char sign) {
      if (sign == 'm' || sign == 'l') {
        return 3;
      }
      return sign == 'c' ? 1 : 0;
    }

    private static boolean isDigit(char sign) {
      return sign >= '0' && sign <= '9';
    }

    private int wrongAt(Evening evening) {
      int men = evening.size;
      int start = 0;
      for (int place = 0; place < size; place++) {
        if (signs[place] == ';') {
          if (signs[start] == 'm') {
            men++;
          }
          if (!isRight(start, men, evening.isDone)) {
            return start;
          }
          start = place + 1;
        }
      }
      return NONE;
    }

    private boolean isRight(int start, int men, boolean isDone) {
      int one = digit(start + 1);
      int two = digit(start + 2);
      int three = digit(start + 3);
      if (signs[start] == 'm') {
        return one <= GREATEST_KIND && three >= 1 && men <= MOST_MEN && !isDone;
      }
      if (signs[start] == 'l') {
        return one <= GREATEST[LAW] && two <= GREATEST[TIE] && three <= GREATEST[FIRST];
      }
      return true;
    }

    private void tellOne(Evening evening, int start, int end) {
      int one = digit(start + 1);
      int two = digit(start + 2);
      int three = digit(start + 3);
      if (signs[start] == 'm') {
        evening.add(one, two, three);
      } else if (signs[start] == 'l') {
        evening.settings[LAW] = one;
        evening.settings[TIE] = two;
        evening.settings[FIRST] = three;
      } else {
        evening.settings[COINS] = end - start == 3 ? one * 10 + two : one;
      }
    }

    private int digit(int place) {
      return place >= 0 && place < size ? signs[place] - '0' : 0;
    }
  }
}
