import java.util.ArrayList;
import java.util.List;

/**
 * Compares long runs of calls, the same in each run of this test, with a slow model that keeps what
 * happened and works each answer out anew; ends with exit code 1 if one differs.
 */
public final class StreetOrgansModelTest {
  private static final int OBJECTS = 4000;
  // With a digest of every 16th state an object has no more than its 512 calls.
  private static final int CALLS = 480;
  private static final int METHODS = 22;
  private static final int[] EDGES = {
    Integer.MIN_VALUE, -121, -120, -61, -60, -1, 0, 1, 5, 6, 7, 8, 9, 11, 12, 15, 16, 60, 61, 90,
    91, 119, 120, 121, 127, 128, 255, Integer.MAX_VALUE
  };

  /** What a call answers: a number, or the name of what it throws. */
  private interface Call {
    Object answer();
  }

  private static final class Play {
    final int street;
    final int tune;

    Play(int street, int tune) {
      this.street = street;
      this.tune = tune;
    }
  }

  private static final class Model {
    final List<List<Integer>> tunes = new ArrayList<>();
    final List<int[]> streets = new ArrayList<>();
    List<Play> today = new ArrayList<>();
    List<Integer> pipesToday = new ArrayList<>();
    int[] worn = new int[12];
    int[] off = new int[12];
    boolean[] cricket = new boolean[12];
    final int[] damp = new int[7];
    int day;
    int coins = 20;
    int fines;

    Model copy() {
      Model m = new Model();
      m.tunes.addAll(tunes);
      m.pipesToday = new ArrayList<>(pipesToday);
      m.worn = worn.clone();
      m.off = off.clone();
      m.cricket = cricket.clone();
      System.arraycopy(damp, 0, m.damp, 0, 7);
      m.day = day;
      return m;
    }

    static void index(boolean good) {
      if (!good) {
        throw new IndexOutOfBoundsException();
      }
    }

    static void argument(boolean good) {
      if (!good) {
        throw new IllegalArgumentException();
      }
    }

    static void state(boolean good) {
      if (!good) {
        throw new IllegalStateException();
      }
    }

    static boolean within(int x, int least, int most) {
      return least <= x && x <= most;
    }

    boolean isTune(int tune) {
      return within(tune, 0, tunes.size() - 1);
    }

    boolean isStreet(int street) {
      return within(street, 0, streets.size() - 1);
    }

    int harm(int pipe) {
      int harm = off[pipe] < 0 ? -off[pipe] : off[pipe];
      harm += worn[pipe] + worn[pipe];
      return cricket[pipe] || harm > 60 ? 60 : harm;
    }

    int soundWithout(int tune, int healed) {
      if (tunes.get(tune).isEmpty()) {
        return 0;
      }
      int sum = 0;
      for (int pipe : tunes.get(tune)) {
        sum += pipe == healed ? 0 : harm(pipe);
      }
      return 60 - sum / tunes.get(tune).size();
    }

    int pay(int street, int tune) {
      int pay = streets.get(street)[0] * soundWithout(tune, -1) / 60;
      for (Play p : today) {
        if (p.street == street && p.tune == tune) {
          pay = pay / 2;
        }
      }
      return pay;
    }

    void wear(int tune) {
      for (int pipe : tunes.get(tune)) {
        worn[pipe] = worn[pipe] < 30 ? worn[pipe] + 1 : 30;
        pipesToday.add(pipe);
      }
    }

    int night() {
      int came = 0;
      for (int pipe = 0; pipe < 12; pipe++) {
        if (!cricket[pipe] && worn[pipe] > 9 && !pipesToday.contains(pipe)) {
          cricket[pipe] = true;
          came++;
        }
        for (int i = 0; i < damp[day % 7]; i++) {
          if (pipe % 2 == 0 && off[pipe] < 60) {
            off[pipe]++;
          } else if (pipe % 2 == 1 && off[pipe] > -60) {
            off[pipe]--;
          }
        }
      }
      pipesToday = new ArrayList<>();
      today = new ArrayList<>();
      day++;
      return came;
    }

    int barrel() {
      state(tunes.size() != 6);
      tunes.add(new ArrayList<>());
      return tunes.size() - 1;
    }

    int pin(int tune, int pipe) {
      index(isTune(tune) && within(pipe, 0, 11));
      state(tunes.get(tune).size() != 16);
      tunes.get(tune).add(pipe);
      return tunes.get(tune).size();
    }

    int note(int tune, int place) {
      index(isTune(tune));
      index(within(place, 0, tunes.get(tune).size() - 1));
      return tunes.get(tune).get(place);
    }

    int street(int listeners, int permits) {
      argument(within(listeners, 0, 90) && within(permits, 0, 127));
      state(streets.size() != 8);
      streets.add(new int[] {listeners, permits, 0});
      return streets.size() - 1;
    }

    int permit(int street, int permits) {
      index(isStreet(street));
      argument(within(permits, 0, 127));
      int before = streets.get(street)[1];
      streets.get(street)[1] = permits;
      return before;
    }

    int setDamp(int weekday, int by) {
      index(within(weekday, 0, 6));
      argument(within(by, 0, 5));
      int before = damp[weekday];
      damp[weekday] = by;
      return before;
    }

    int play(int street, int tune) {
      index(isStreet(street) && isTune(tune));
      state(!tunes.get(tune).isEmpty());
      if (told(street, 2) == 0) {
        int fine = coins < 10 ? coins : 10;
        coins -= fine;
        fines += fine;
        return -fine;
      }
      int pay = pay(street, tune);
      coins += pay;
      streets.get(street)[2] += pay;
      today.add(new Play(street, tune));
      wear(tune);
      return pay;
    }

    int tune(int pipe, int by) {
      index(within(pipe, 0, 11));
      argument(within(by, -120, 120));
      off[pipe] += by;
      off[pipe] = off[pipe] > 60 ? 60 : off[pipe] < -60 ? -60 : off[pipe];
      return off[pipe];
    }

    int felt(int pipe) {
      index(within(pipe, 0, 11));
      state(coins >= 4);
      coins -= 4;
      int before = worn[pipe];
      worn[pipe] = 0;
      return before;
    }

    int chase() {
      int there = count(5);
      cricket = new boolean[12];
      return there;
    }

    int pipe(int pipe, int what) {
      index(within(pipe, 0, 11) && within(what, 0, 4));
      int[] tells = {worn[pipe], off[pipe], cricket[pipe] ? 1 : 0, harm(pipe),
          pipesToday.contains(pipe) ? 1 : 0};
      return tells[what];
    }

    int sound(int tune) {
      index(isTune(tune));
      return soundWithout(tune, -1);
    }

    int told(int street, int what) {
      index(isStreet(street) && within(what, 0, 4));
      int[] s = streets.get(street);
      int played = 0;
      for (Play p : today) {
        played += p.street == street ? 1 : 0;
      }
      int bit = 1;
      for (int i = 0; i < day % 7; i++) {
        bit *= 2;
      }
      int[] tells = {s[0], s[1], s[1] / bit % 2, s[2], played};
      return tells[what];
    }

    int count(int what) {
      index(within(what, 0, 8));
      int crickets = 0;
      int felts = 0;
      int offs = 0;
      for (int pipe = 0; pipe < 12; pipe++) {
        crickets += cricket[pipe] ? 1 : 0;
        felts += worn[pipe];
        offs += off[pipe] < 0 ? -off[pipe] : off[pipe];
      }
      int[] tells =
          {day, day % 7, coins, tunes.size(), streets.size(), crickets, felts, offs, fines};
      return tells[what];
    }

    int rest(int nights) {
      argument(within(nights, 1, 60));
      int came = 0;
      for (int i = 0; i < nights; i++) {
        came += night();
      }
      return came;
    }

    int pays(int street, int tune) {
      index(isStreet(street) && isTune(tune));
      return pay(street, tune);
    }

    int best(int street) {
      index(isStreet(street));
      int best = -1;
      for (int i = tunes.size() - 1; i >= 0; i--) {
        if (pay(street, i) > 0 && (best < 0 || pay(street, i) >= pay(street, best))) {
          best = i;
        }
      }
      return best;
    }

    int worst(int tune) {
      index(isTune(tune));
      int worst = -1;
      for (int i = 11; i >= 0; i--) {
        int healed = soundWithout(tune, i);
        if (healed > soundWithout(tune, -1) && healed >= soundWithout(tune, worst)) {
          worst = i;
        }
      }
      return worst;
    }

    int foresee(int nights, int what) {
      argument(within(nights, 1, 60));
      index(within(what, 5, 7));
      Model m = copy();
      m.rest(nights);
      return m.count(what);
    }

    int lasts(int tune) {
      index(isTune(tune));
      Model m = copy();
      int plays = 0;
      while (m.sound(tune) >= 30 && plays < 99) {
        m.wear(tune);
        plays++;
      }
      return plays;
    }

    double mean() {
      double sum = 0;
      for (int i = 0; i < tunes.size(); i++) {
        sum += sound(i);
      }
      return tunes.isEmpty() ? 0 : sum / tunes.size();
    }

    long digest() {
      List<Integer> all = new ArrayList<>();
      for (int i = 0; i < 9; i++) {
        all.add(count(i));
      }
      for (int i = 0; i < 60; i++) {
        all.add(pipe(i / 5, i % 5));
      }
      for (int by : damp) {
        all.add(by);
      }
      for (int i = 0; i < tunes.size(); i++) {
        all.add(tunes.get(i).size());
        all.addAll(tunes.get(i));
        all.add(sound(i));
      }
      for (int i = 0; i < streets.size(); i++) {
        for (int what = 0; what < 5; what++) {
          all.add(told(i, what));
        }
        for (int k = 0; k < tunes.size(); k++) {
          all.add(pays(i, k));
        }
      }
      long d = 1097;
      for (int x : all) {
        d = d * 31 + x;
      }
      return d;
    }
  }

  private static long seed = 1;

  private static int below(int bound) {
    seed = seed * 6364136223846793005L + 1442695040888963407L;
    return (int) ((seed >>> 33) % bound);
  }

  /** Mostly a number within the range, now and then one at or far beyond an edge. */
  private static int some(int least, int most) {
    int kind = below(40);
    if (kind == 0) {
      return EDGES[below(EDGES.length)];
    }
    if (kind == 1) {
      return below(2) == 0 ? least - 1 : most + 1;
    }
    return least + below(most - least + 1);
  }

  private static Object answerOf(Call call) {
    try {
      return call.answer();
    } catch (RuntimeException e) {
      return e.getClass().getName();
    }
  }

  private static Object[] both(StreetOrgans x, Model m, int method, int a, int b) {
    Call[] calls;
    switch (method) {
      case 0: calls = new Call[] {() -> x.barrel(), () -> m.barrel()}; break;
      case 1: calls = new Call[] {() -> x.pin(a, b), () -> m.pin(a, b)}; break;
      case 2: calls = new Call[] {() -> x.note(a, b), () -> m.note(a, b)}; break;
      case 3: calls = new Call[] {() -> x.street(a, b), () -> m.street(a, b)}; break;
      case 4: calls = new Call[] {() -> x.permit(a, b), () -> m.permit(a, b)}; break;
      case 5: calls = new Call[] {() -> x.setDamp(a, b), () -> m.setDamp(a, b)}; break;
      case 6: calls = new Call[] {() -> x.play(a, b), () -> m.play(a, b)}; break;
      case 7: calls = new Call[] {() -> x.tune(a, b), () -> m.tune(a, b)}; break;
      case 8: calls = new Call[] {() -> x.felt(a), () -> m.felt(a)}; break;
      case 9: calls = new Call[] {() -> x.chase(), () -> m.chase()}; break;
      case 10: calls = new Call[] {() -> x.pipe(a, b), () -> m.pipe(a, b)}; break;
      case 11: calls = new Call[] {() -> x.sound(a), () -> m.sound(a)}; break;
      case 12: calls = new Call[] {() -> x.told(a, b), () -> m.told(a, b)}; break;
      case 13: calls = new Call[] {() -> x.count(a), () -> m.count(a)}; break;
      case 14: calls = new Call[] {() -> x.rest(a), () -> m.rest(a)}; break;
      case 15: calls = new Call[] {() -> x.pays(a, b), () -> m.pays(a, b)}; break;
      case 16: calls = new Call[] {() -> x.best(a), () -> m.best(a)}; break;
      case 17: calls = new Call[] {() -> x.worst(a), () -> m.worst(a)}; break;
      case 18: calls = new Call[] {() -> x.foresee(a, b), () -> m.foresee(a, b)}; break;
      case 19: calls = new Call[] {() -> x.lasts(a), () -> m.lasts(a)}; break;
      case 20: calls = new Call[] {() -> x.mean(), () -> m.mean()}; break;
      default: calls = new Call[] {() -> x.digest(), () -> m.digest()}; break;
    }
    return new Object[] {answerOf(calls[0]), answerOf(calls[1])};
  }

  // The least and the most of both arguments of each method, in the face's order.
  private static final int[][] RANGES = {
    {0, 0, 0, 0}, {0, 5, 0, 11}, {0, 5, 0, 15}, {0, 90, 0, 127}, {0, 7, 0, 127}, {0, 6, 0, 5},
    {0, 7, 0, 5}, {0, 11, -120, 120}, {0, 11, 0, 0}, {0, 0, 0, 0}, {0, 11, 0, 4}, {0, 5, 0, 0},
    {0, 7, 0, 4}, {0, 8, 0, 0}, {1, 60, 0, 0}, {0, 7, 0, 5}, {0, 7, 0, 0}, {0, 5, 0, 0},
    {1, 60, 5, 7}, {0, 5, 0, 0}, {0, 0, 0, 0}, {0, 0, 0, 0}
  };

  // How often a method is drawn: pins and plays often, rests and chases now and then.
  private static final int[] SHARES =
      {3, 30, 4, 5, 4, 3, 45, 6, 8, 1, 8, 5, 5, 6, 7, 6, 6, 6, 6, 6, 2, 4};

  private static int drawMethod() {
    int all = 0;
    for (int share : SHARES) {
      all += share;
    }
    int left = below(all);
    for (int i = 0; i < METHODS; i++) {
      left -= SHARES[i];
      if (left < 0) {
        return i;
      }
    }
    return METHODS - 1;
  }

  private static int[] drawArguments(int method, int style) {
    int[] r = RANGES[method];
    int a = some(r[0], r[1]);
    int b = some(r[2], r[3]);
    if (method == 14 && below(4) != 0) {
      a = 1 + below(3);
    }
    if (method == 7 && style % 2 == 0 && below(3) != 0) {
      b = below(11) - 5;
    }
    if (method == 3 && style % 3 == 0) {
      b = 127;
    }
    return new int[] {a, b};
  }

  private static boolean runOne(int object) {
    StreetOrgans x = new StreetOrgans();
    Model m = new Model();
    List<String> run = new ArrayList<>();
    for (int call = 0; call < CALLS; call++) {
      int method = drawMethod();
      int[] arguments = drawArguments(method, object);
      int a = arguments[0];
      int b = arguments[1];
      Object[] answers = both(x, m, method, a, b);
      run.add(method + "(" + a + ", " + b + ")");
      if (!answers[0].equals(answers[1])) {
        System.out.println("object " + object + ", call " + call + ": method " + method + " of "
            + a + ", " + b + " answered " + answers[0] + ", due is " + answers[1]);
        return false;
      }
      if (call % 16 == 15 && x.digest() != m.digest()) {
        System.out.println("object " + object + ": another state behind " + run);
        return false;
      }
    }
    return true;
  }

  public static void main(String[] args) {
    int wrong = 0;
    for (int object = 0; object < OBJECTS && wrong < 5; object++) {
      wrong += runOne(object) ? 0 : 1;
    }
    System.out.println(OBJECTS + " objects of " + CALLS + " calls, " + wrong + " wrong");
    if (wrong != 0) {
      System.exit(1);
    }
  }
}
