/** A street organ and its tuner. */
public final class StreetOrgans {

  private static final int PIPES = 12;
  private static final int MOST_WORN = 30;
  private static final int MOST_OFF = 60;
  private static final int MOST_HARM = 60;
  private static final int CRICKET_WEAR = 10;

  private static final int MOST_TUNES = 6;
  private static final int MOST_NOTES = 16;
  private static final int FULL_SOUND = 60;
  private static final int POOR_SOUND = 30;
  private static final int MOST_LASTS = 99;

  private static final int MOST_STREETS = 8;
  private static final int MOST_LISTENERS = 90;

  private static final int WEEK = 7;
  private static final int ALL_WEEKDAYS = 127;
  private static final int MOST_DAMP = 5;
  private static final int MOST_NIGHTS = 60;

  private static final int FIRST_COINS = 20;
  private static final int FINE = 10;
  private static final int FELT_PRICE = 4;
  private static final int MOST_TUNING = 120;

  private static final int PIPE_TELLS = 5;
  private static final int STREET_TELLS = 5;
  private static final int COUNT_TELLS = 9;
  private static final int CRICKETS = 5;
  private static final int FELTS_WORN = 6;
  private static final int PIPES_OFF = 7;

  private static final long DIGEST_START = 1097;
  private static final int DIGEST_FACTOR = 31;

  private final Pipes pipes;
  // Nights and plays that are only thought of happen to these, so that nothing is made in a call.
  private final Pipes trial;
  private final Tune[] tunes;
  private final Street[] streets;
  private final int[] damp;
  private int tuneCount;
  private int streetCount;
  private int day;
  private int coins;
  private int fines;

  public StreetOrgans() {
    pipes = new Pipes();
    trial = new Pipes();
    tunes = new Tune[MOST_TUNES];
    for (int i = 0; i < MOST_TUNES; i++) {
      tunes[i] = new Tune();
    }
    streets = new Street[MOST_STREETS];
    for (int i = 0; i < MOST_STREETS; i++) {
      streets[i] = new Street();
    }
    damp = new int[WEEK];
    coins = FIRST_COINS;
  }

  // ---- tunes and streets

  public int barrel() throws IllegalStateException {
    if (tuneCount >= MOST_TUNES) {
      throw new IllegalStateException("there are 6 tunes");
    }
    return tuneCount++;
  }

  public int pin(int tune, int pipe) throws IndexOutOfBoundsException, IllegalStateException {
    checkTune(tune);
    checkPipe(pipe);
    if (tunes[tune].length >= MOST_NOTES) {
      throw new IllegalStateException("the tune has 16 notes");
    }
    return tunes[tune].append(pipe);
  }

  public int note(int tune, int place) throws IndexOutOfBoundsException {
    checkTune(tune);
    if (place < 0 || place >= tunes[tune].length) {
      throw new IndexOutOfBoundsException("no such place");
    }
    return tunes[tune].notes[place];
  }

  public int street(int listeners, int permits)
      throws IllegalArgumentException, IllegalStateException {
    if (listeners < 0 || listeners > MOST_LISTENERS) {
      throw new IllegalArgumentException("listeners is not 0 to 90");
    }
    checkPermits(permits);
    if (streetCount >= MOST_STREETS) {
      throw new IllegalStateException("there are 8 streets");
    }
    streets[streetCount].listeners = listeners;
    streets[streetCount].permits = permits;
    return streetCount++;
  }

  public int permit(int street, int permits)
      throws IndexOutOfBoundsException, IllegalArgumentException {
    checkStreet(street);
    checkPermits(permits);
    int before = streets[street].permits;
    streets[street].permits = permits;
    return before;
  }

  public int setDamp(int weekday, int damp)
      throws IndexOutOfBoundsException, IllegalArgumentException {
    if (weekday < 0 || weekday >= WEEK) {
      throw new IndexOutOfBoundsException("weekday is not 0 to 6");
    }
    if (damp < 0 || damp > MOST_DAMP) {
      throw new IllegalArgumentException("damp is not 0 to 5");
    }
    int before = this.damp[weekday];
    this.damp[weekday] = damp;
    return before;
  }

  // ---- playing and mending

  public int play(int street, int tune) throws IndexOutOfBoundsException, IllegalStateException {
    checkStreet(street);
    checkTune(tune);
    if (tunes[tune].length == 0) {
      throw new IllegalStateException("the tune has no notes");
    }
    if (!streets[street].isPermittedOn(weekdayOf(day))) {
      return -payFine();
    }
    // The street pays for the sound that it hears: before the felts are worn by this playing.
    int pay = payNow(street, tune);
    coins += pay;
    streets[street].paid += pay;
    streets[street].heard[tune]++;
    tunes[tune].wearDown(pipes);
    return pay;
  }

  public int tune(int pipe, int by) throws IndexOutOfBoundsException, IllegalArgumentException {
    checkPipe(pipe);
    if (by < -MOST_TUNING || by > MOST_TUNING) {
      throw new IllegalArgumentException("by is not -120 to 120");
    }
    pipes.shift(pipe, by);
    return pipes.off[pipe];
  }

  public int felt(int pipe) throws IndexOutOfBoundsException, IllegalStateException {
    checkPipe(pipe);
    if (coins < FELT_PRICE) {
      throw new IllegalStateException("there are less than 4 coins");
    }
    coins -= FELT_PRICE;
    int before = pipes.worn[pipe];
    pipes.worn[pipe] = 0;
    return before;
  }

  public int chase() {
    int chased = pipes.cricketCount();
    pipes.clearCrickets();
    return chased;
  }

  // ---- what is there

  public int pipe(int pipe, int what) throws IndexOutOfBoundsException {
    checkPipe(pipe);
    if (what < 0 || what >= PIPE_TELLS) {
      throw new IndexOutOfBoundsException("what is not 0 to 4");
    }
    return pipes.tell(pipe, what);
  }

  public int sound(int tune) throws IndexOutOfBoundsException {
    checkTune(tune);
    return tunes[tune].soundOf(pipes);
  }

  public int told(int street, int what) throws IndexOutOfBoundsException {
    checkStreet(street);
    if (what < 0 || what >= STREET_TELLS) {
      throw new IndexOutOfBoundsException("what is not 0 to 4");
    }
    return streets[street].tell(what, weekdayOf(day));
  }

  public int count(int what) throws IndexOutOfBoundsException {
    if (what < 0 || what >= COUNT_TELLS) {
      throw new IndexOutOfBoundsException("what is not 0 to 8");
    }
    return countNow(what);
  }

  // ---- nights and what would be

  public int rest(int nights) throws IllegalArgumentException {
    checkNights(nights);
    int came = passNights(pipes, nights);
    for (int i = 0; i < streetCount; i++) {
      streets[i].forgetDay();
    }
    day += nights;
    return came;
  }

  public int pays(int street, int tune) throws IndexOutOfBoundsException {
    checkStreet(street);
    checkTune(tune);
    return payNow(street, tune);
  }

  public int best(int street) throws IndexOutOfBoundsException {
    checkStreet(street);
    int best = -1;
    int most = 0;
    for (int i = 0; i < tuneCount; i++) {
      int pay = payNow(street, i);
      if (pay > most) {
        most = pay;
        best = i;
      }
    }
    return best;
  }

  public int worst(int tune) throws IndexOutOfBoundsException {
    checkTune(tune);
    int worst = -1;
    int greatest = tunes[tune].soundOf(pipes);
    for (int i = 0; i < PIPES; i++) {
      int spared = tunes[tune].soundSparing(pipes, i);
      if (spared > greatest) {
        greatest = spared;
        worst = i;
      }
    }
    return worst;
  }

  public int foresee(int nights, int what)
      throws IllegalArgumentException, IndexOutOfBoundsException {
    checkNights(nights);
    if (what < CRICKETS || what > PIPES_OFF) {
      throw new IndexOutOfBoundsException("what is not 5 to 7");
    }
    trial.become(pipes);
    passNights(trial, nights);
    return trial.sumUp(what);
  }

  public int lasts(int tune) throws IndexOutOfBoundsException {
    checkTune(tune);
    trial.become(pipes);
    int plays = 0;
    while (plays < MOST_LASTS && tunes[tune].soundOf(trial) >= POOR_SOUND) {
      tunes[tune].wearDown(trial);
      plays++;
    }
    return plays;
  }

  public double mean() {
    if (tuneCount == 0) {
      return 0;
    }
    int sum = 0;
    for (int i = 0; i < tuneCount; i++) {
      sum += tunes[i].soundOf(pipes);
    }
    return (double) sum / tuneCount;
  }

  public long digest() {
    long d = DIGEST_START;
    for (int what = 0; what < COUNT_TELLS; what++) {
      d = mix(d, countNow(what));
    }
    for (int i = 0; i < PIPES; i++) {
      for (int what = 0; what < PIPE_TELLS; what++) {
        d = mix(d, pipes.tell(i, what));
      }
    }
    for (int i = 0; i < WEEK; i++) {
      d = mix(d, damp[i]);
    }
    for (int i = 0; i < tuneCount; i++) {
      d = mixTune(d, tunes[i]);
    }
    for (int i = 0; i < streetCount; i++) {
      d = mixStreet(d, i);
    }
    return d;
  }

  // ---- of the class's own

  private void checkTune(int tune) {
    if (tune < 0 || tune >= tuneCount) {
      throw new IndexOutOfBoundsException("no such tune");
    }
  }

  private void checkStreet(int street) {
    if (street < 0 || street >= streetCount) {
      throw new IndexOutOfBoundsException("no such street");
    }
  }

  private static void checkPipe(int pipe) {
    if (pipe < 0 || pipe >= PIPES) {
      throw new IndexOutOfBoundsException("pipe is not 0 to 11");
    }
  }

  private static void checkPermits(int permits) {
    if (permits < 0 || permits > ALL_WEEKDAYS) {
      throw new IllegalArgumentException("permits is not a set of weekdays");
    }
  }

  private static void checkNights(int nights) {
    if (nights < 1 || nights > MOST_NIGHTS) {
      throw new IllegalArgumentException("nights is not 1 to 60");
    }
  }

  // floorMod stays an index of the week even where the day has wrapped around.
  private static int weekdayOf(int day) {
    return Math.floorMod(day, WEEK);
  }

  private int payNow(int street, int tune) {
    return streets[street].payFor(tune, tunes[tune].soundOf(pipes));
  }

  private int payFine() {
    int fine = Math.min(FINE, coins);
    coins -= fine;
    fines += fine;
    return fine;
  }

  private int passNights(Pipes over, int nights) {
    int came = 0;
    for (int i = 0; i < nights; i++) {
      came += over.passNight(damp[weekdayOf(day + i)]);
    }
    return came;
  }

  private int countNow(int what) {
    switch (what) {
      case 0:
        return day;
      case 1:
        return weekdayOf(day);
      case 2:
        return coins;
      case 3:
        return tuneCount;
      case 4:
        return streetCount;
      case 8:
        return fines;
      default:
        return pipes.sumUp(what);
    }
  }

  private static long mix(long d, int x) {
    return d * DIGEST_FACTOR + x;
  }

  private long mixTune(long start, Tune tune) {
    long d = mix(start, tune.length);
    for (int i = 0; i < tune.length && i < MOST_NOTES; i++) {
      d = mix(d, tune.notes[i]);
    }
    return mix(d, tune.soundOf(pipes));
  }

  private long mixStreet(long start, int street) {
    long d = start;
    for (int what = 0; what < STREET_TELLS; what++) {
      d = mix(d, streets[street].tell(what, weekdayOf(day)));
    }
    for (int i = 0; i < tuneCount; i++) {
      d = mix(d, payNow(street, i));
    }
    return d;
  }

  /** The state of all pipes, the organ's own or one to try things on. */
  private static final class Pipes {
    final int[] worn = new int[PIPES];
    final int[] off = new int[PIPES];
    final boolean[] cricket = new boolean[PIPES];
    final boolean[] playedToday = new boolean[PIPES];

    void become(Pipes other) {
      for (int i = 0; i < PIPES; i++) {
        worn[i] = other.worn[i];
        off[i] = other.off[i];
        cricket[i] = other.cricket[i];
        playedToday[i] = other.playedToday[i];
      }
    }

    int harmOf(int pipe) {
      if (cricket[pipe]) {
        return MOST_HARM;
      }
      return Math.min(MOST_HARM, Math.abs(off[pipe]) + 2 * worn[pipe]);
    }

    void wear(int pipe, int by) {
      worn[pipe] = Math.min(MOST_WORN, worn[pipe] + by);
      playedToday[pipe] = true;
    }

    void shift(int pipe, int by) {
      off[pipe] = Math.max(-MOST_OFF, Math.min(MOST_OFF, off[pipe] + by));
    }

    int passNight(int damp) {
      int came = 0;
      for (int i = 0; i < PIPES; i++) {
        if (worn[i] >= CRICKET_WEAR && !playedToday[i] && !cricket[i]) {
          cricket[i] = true;
          came++;
        }
        shift(i, i % 2 == 0 ? damp : -damp);
        playedToday[i] = false;
      }
      return came;
    }

    void clearCrickets() {
      for (int i = 0; i < PIPES; i++) {
        cricket[i] = false;
      }
    }

    int cricketCount() {
      int sum = 0;
      for (int i = 0; i < PIPES; i++) {
        sum += cricket[i] ? 1 : 0;
      }
      return sum;
    }

    int wornInAll() {
      int sum = 0;
      for (int i = 0; i < PIPES; i++) {
        sum += worn[i];
      }
      return sum;
    }

    int offInAll() {
      int sum = 0;
      for (int i = 0; i < PIPES; i++) {
        sum += Math.abs(off[i]);
      }
      return sum;
    }

    int sumUp(int what) {
      switch (what) {
        case CRICKETS:
          return cricketCount();
        case FELTS_WORN:
          return wornInAll();
        default:
          return offInAll();
      }
    }

    int tell(int pipe, int what) {
      switch (what) {
        case 0:
          return worn[pipe];
        case 1:
          return off[pipe];
        case 2:
          return cricket[pipe] ? 1 : 0;
        case 3:
          return harmOf(pipe);
        default:
          return playedToday[pipe] ? 1 : 0;
      }
    }
  }

  /** A row of notes. */
  private static final class Tune {
    private static final int NO_PIPE = -1;

    final int[] notes = new int[MOST_NOTES];
    // How often each pipe comes: harm and wear ask for no more than this.
    final int[] times = new int[PIPES];
    int length;

    int append(int pipe) {
      notes[length] = pipe;
      times[pipe]++;
      length++;
      return length;
    }

    int soundOf(Pipes pipes) {
      return soundSparing(pipes, NO_PIPE);
    }

    /** The sound as if the spared pipe had no harm. */
    int soundSparing(Pipes pipes, int spared) {
      if (length == 0) {
        return 0;
      }
      int harms = 0;
      for (int i = 0; i < PIPES; i++) {
        if (i != spared) {
          harms += times[i] * pipes.harmOf(i);
        }
      }
      return FULL_SOUND - harms / length;
    }

    void wearDown(Pipes pipes) {
      for (int i = 0; i < PIPES; i++) {
        if (times[i] > 0) {
          pipes.wear(i, times[i]);
        }
      }
    }
  }

  /** A street and what it heard on this day. */
  private static final class Street {
    // For each tune, how often it was played here on this day.
    final int[] heard = new int[MOST_TUNES];
    int listeners;
    int permits;
    int paid;

    boolean isPermittedOn(int weekday) {
      return (permits >> weekday & 1) == 1;
    }

    int payFor(int tune, int sound) {
      int pay = listeners * sound / FULL_SOUND;
      for (int i = 0; i < heard[tune] && pay > 0; i++) {
        pay /= 2;
      }
      return pay;
    }

    void forgetDay() {
      for (int i = 0; i < MOST_TUNES; i++) {
        heard[i] = 0;
      }
    }

    int heardInAll() {
      int sum = 0;
      for (int i = 0; i < MOST_TUNES; i++) {
        sum += heard[i];
      }
      return sum;
    }

    int tell(int what, int weekday) {
      switch (what) {
        case 0:
          return listeners;
        case 1:
          return permits;
        case 2:
          return isPermittedOn(weekday) ? 1 : 0;
        case 3:
          return paid;
        default:
          return heardInAll();
      }
    }
  }
}
