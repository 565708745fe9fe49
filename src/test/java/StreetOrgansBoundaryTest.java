import java.util.Arrays;

/**
 * Tests the boundary cases, sentence by sentence of the document and in its order; each section
 * bears the words that it tests. Ends with exit code 1 if an answer is not the one that is due.
 */
public final class StreetOrgansBoundaryTest {
  private static final Class<IndexOutOfBoundsException> INDEX = IndexOutOfBoundsException.class;
  private static final Class<IllegalArgumentException> ARGUMENT = IllegalArgumentException.class;
  private static final Class<IllegalStateException> STATE = IllegalStateException.class;
  private static final int EVERY_DAY = 127;

  private static String sentence = "";
  private static int checks = 0;
  private static int wrong = 0;

  // ---- how it is tested

  private static void says(String words) {
    sentence = words;
  }

  private static void due(String what, long want, long got) {
    checks++;
    if (got != want) {
      fail(what + ": " + got + ", due is " + want);
    }
  }

  private static void dueDouble(String what, double want, double got) {
    checks++;
    if (got != want) {
      fail(what + ": " + got + ", due is " + want);
    }
  }

  private static void fail(String message) {
    wrong++;
    System.out.println("\"" + sentence + "\": " + message);
  }

  /** The call throws exactly this class, and the object is as before. */
  private static void refused(
      StreetOrgans x, Class<? extends RuntimeException> want, String what, Runnable call) {
    checks++;
    long before = x.digest();
    Class<?> got = null;
    try {
      call.run();
    } catch (RuntimeException e) {
      got = e.getClass();
    }
    if (got != want) {
      fail(what + " threw " + got + ", due is " + want);
    }
    if (x.digest() != before) {
      fail(what + " was refused and changed the object");
    }
  }

  /** Numbers next to the range, far from it, and such as are in it when cut to 8 or 16 bits. */
  private static int[] outside(int least, int most) {
    return new int[] {least - 1, most + 1, least - 256, most + 256, least - 65536, most + 65536,
        -most - 1, Integer.MIN_VALUE, Integer.MIN_VALUE + most, Integer.MAX_VALUE};
  }

  private static int[] notes(int... pipes) {
    return pipes;
  }

  private static int[] often(int pipe, int times) {
    int[] row = new int[times];
    Arrays.fill(row, pipe);
    return row;
  }

  private static int[] allPipes() {
    return notes(0, 1, 2, 3, 4, 5, 6, 7, 8, 9, 10, 11);
  }

  private static StreetOrgans organ(int[]... tunes) {
    StreetOrgans x = new StreetOrgans();
    for (int[] row : tunes) {
      int tune = x.barrel();
      for (int pipe : row) {
        x.pin(tune, pipe);
      }
    }
    return x;
  }

  /** Nobody listens in its street 0: playing there wears felts and leaves the coins. */
  private static StreetOrgans organInAnEmptyStreet(int[]... tunes) {
    StreetOrgans x = organ(tunes);
    x.street(0, EVERY_DAY);
    return x;
  }

  private static void play(StreetOrgans x, int street, int tune, int times) {
    for (int i = 0; i < times; i++) {
      x.play(street, tune);
    }
  }

  private static StreetOrgans fullTown() {
    StreetOrgans x = new StreetOrgans();
    for (int tune = 0; tune < 6; tune++) {
      x.barrel();
      for (int place = 0; place < 16; place++) {
        x.pin(tune, (tune + place) % 12);
      }
    }
    for (int street = 0; street < 8; street++) {
      x.street(90 - street, EVERY_DAY - street);
    }
    return x;
  }

  // ---- what it is, and terms

  private static void calls() {
    says("An object is used for at most 512 calls after it has been made");
    StreetOrgans x = new StreetOrgans();
    for (int i = 0; i < 510; i++) {
      x.rest(60);
    }
    due("the day", 30600, x.count(0));
    due("the 512th call: the weekday", 30600 % 7, x.count(1));

    StreetOrgans y = organ(notes(0));
    y.street(90, EVERY_DAY);
    play(y, 0, 0, 505);
    due("coins", 20 + 90 + 43 + 21 + 10 + 4 + 2 + 1, y.count(2));
    due("paid", 171, y.told(0, 3));
    due("tunes that were played", 505, y.told(0, 4));
    due("the 512th call: worn", 30, y.pipe(0, 0));

    StreetOrgans z = new StreetOrgans();
    int refusals = 0;
    for (int i = 0; i < 511; i++) {
      try {
        z.barrel();
      } catch (IllegalStateException e) {
        refusals++;
      }
    }
    due("refused", 505, refusals);
    due("the 512th call: tunes", 6, z.count(3));
  }

  private static void weekday() {
    says("the weekday is the remainder of it by 7");
    StreetOrgans x = new StreetOrgans();
    for (int day = 0; day < 30; day++) {
      due("day", day, x.count(0));
      due("weekday of day " + day, day % 7, x.count(1));
      x.rest(1);
    }
    x.rest(5);
    due("day 35", 0, x.count(1));
    x.rest(6);
    due("day 41", 6, x.count(1));
    x.rest(60);
    due("day 101", 3, x.count(1));
    x.rest(7);
    due("day 108", 3, x.count(1));
  }

  private static void worn() {
    says("each has a felt, worn by 0 (at first) to 30");
    StreetOrgans x = organInAnEmptyStreet(often(3, 16), notes(3), often(3, 2));
    due("at first", 0, x.pipe(3, 0));
    play(x, 0, 0, 1);
    due("once for each note", 16, x.pipe(3, 0));
    play(x, 0, 1, 13);
    due("next to the most", 29, x.pipe(3, 0));
    play(x, 0, 1, 1);
    due("the most", 30, x.pipe(3, 0));
    play(x, 0, 1, 1);
    due("no more", 30, x.pipe(3, 0));
    play(x, 0, 0, 1);
    due("no more by 16", 30, x.pipe(3, 0));
    due("harm", 60, x.pipe(3, 3));
    due("the old felt", 30, x.felt(3));
    play(x, 0, 2, 14);
    due("28", 28, x.pipe(3, 0));
    play(x, 0, 1, 1);
    play(x, 0, 2, 1);
    due("29 and 2 more", 30, x.pipe(3, 0));

    StreetOrgans all = organInAnEmptyStreet(allPipes());
    play(all, 0, 0, 29);
    due("all felts", 12 * 29, all.count(6));
    play(all, 0, 0, 2);
    due("all felts at most", 12 * 30, all.count(6));
  }

  private static void harm() {
    says("how far it is off, without the sign, and 2 for each ..., added, at most 60");
    int[][] offWornHarm = {{0, 0, 0}, {1, 0, 1}, {-1, 0, 1}, {0, 1, 2}, {-1, 1, 3}, {59, 0, 59},
        {-59, 0, 59}, {60, 0, 60}, {-60, 0, 60}, {57, 1, 59}, {58, 1, 60}, {-58, 1, 60},
        {59, 1, 60}, {-59, 1, 60}, {60, 30, 60}, {-60, 30, 60}, {0, 29, 58}, {1, 29, 59},
        {-2, 29, 60}, {3, 29, 60}, {0, 30, 60}, {-1, 30, 60}, {40, 10, 60}, {-40, 9, 58}};
    for (int[] row : offWornHarm) {
      StreetOrgans x = organInAnEmptyStreet(notes(11));
      x.tune(11, row[0]);
      play(x, 0, 0, row[1]);
      due("off by " + row[0] + ", worn by " + row[1], row[2], x.pipe(11, 3));
      due("the sound", 60 - row[2], x.sound(0));
    }
  }

  private static void harmWithACricket() {
    says("60 with a cricket");
    StreetOrgans x = organInAnEmptyStreet(often(4, 10));
    play(x, 0, 0, 1);
    x.rest(2);
    due("a cricket", 1, x.pipe(4, 2));
    due("worn by 10", 60, x.pipe(4, 3));
    x.felt(4);
    due("a new felt, off by 0", 60, x.pipe(4, 3));
    x.tune(4, -60);
    due("off by -60, no more than 60", 60, x.pipe(4, 3));
    x.tune(4, 60);
    x.chase();
    due("chased", 0, x.pipe(4, 3));
  }

  private static void rows() {
    says("each is a row of at most 16 pipes (none, at first) ..., each of which can come again");
    StreetOrgans x = organ(notes(), often(7, 16), notes(2, 2, 5, 2));
    refused(x, INDEX, "no note at first", () -> x.note(0, 0));
    due("the 16th", 7, x.note(1, 15));
    refused(x, STATE, "the 17th", () -> x.pin(1, 7));
    due("again", 2, x.note(2, 3));
    x.tune(2, 4);
    due("each time counted: 12 / 4", 57, x.sound(2));
  }

  private static void sounds() {
    says("60 less the mean harm of its notes ..., 0 to 60; 0 without notes");
    StreetOrgans x = organ(often(0, 16), notes(), notes(1), notes(2, 3));
    due("no harm", 60, x.sound(0));
    due("without notes", 0, x.sound(1));
    x.tune(0, 60);
    due("all harm", 0, x.sound(0));
    x.tune(1, -59);
    due("one note, 59", 1, x.sound(2));
    x.tune(1, -1);
    due("one note, 60", 0, x.sound(2));
    x.tune(2, 1);
    due("1 / 2 is cut", 60, x.sound(3));
    x.tune(3, -1);
    due("2 / 2", 59, x.sound(3));
    x.tune(2, 1);
    due("3 / 2 is cut", 59, x.sound(3));

    StreetOrgans y = organ(often(0, 16));
    y.tune(0, 1);
    due("16 notes of 1", 59, y.sound(0));
    StreetOrgans z = organ(notes(0, 1, 1, 1, 1, 1, 1, 1, 1, 1, 1, 1, 1, 1, 1, 1));
    z.tune(0, 15);
    due("15 / 16", 60, z.sound(0));
    z.tune(0, 1);
    due("16 / 16", 59, z.sound(0));
    z.tune(0, 15);
    due("31 / 16", 59, z.sound(0));
    z.tune(0, 1);
    due("32 / 16", 58, z.sound(0));
    z.tune(0, 27);
    z.tune(1, 60);
    due("959 / 16", 1, z.sound(0));
    z.tune(0, 1);
    due("960 / 16", 0, z.sound(0));
  }

  private static void permitBits() {
    says("a set: bit 0 for the weekday 0, and so on");
    StreetOrgans x = new StreetOrgans();
    for (int weekday = 0; weekday < 6; weekday++) {
      x.street(1, 1 << weekday);
    }
    x.street(1, 64);
    x.street(1, 0);
    for (int day = 0; day < 16; day++) {
      for (int street = 0; street < 8; street++) {
        due("street " + street + " on day " + day, street == day % 7 ? 1 : 0, x.told(street, 2));
      }
      x.rest(1);
    }
    x.permit(7, EVERY_DAY);
    x.permit(6, EVERY_DAY - 1);
    for (int day = 16; day < 24; day++) {
      due("all weekdays, on day " + day, 1, x.told(7, 2));
      due("all but weekday 0, on day " + day, day == 21 ? 0 : 1, x.told(6, 2));
      x.rest(1);
    }
  }

  private static void pay() {
    says("Pay of a street for a tune: listeners * sound / 60");
    int[][] listenersSoundPay = {{0, 60, 0}, {90, 60, 90}, {90, 0, 0}, {1, 60, 1}, {1, 59, 0},
        {90, 1, 1}, {60, 1, 1}, {59, 1, 0}, {61, 59, 59}, {2, 30, 1}, {2, 29, 0}, {89, 59, 87},
        {90, 59, 88}, {90, 58, 87}};
    for (int[] row : listenersSoundPay) {
      StreetOrgans x = organ(notes(6));
      x.street(row[0], 0);
      x.street(row[0], EVERY_DAY);
      x.tune(6, 60 - row[1]);
      due(row[0] + " listeners, sound " + row[1], row[2], x.pays(0, 0));
      due("and it pays so", row[2], x.play(1, 0));
      due("into the coins", 20 + row[2], x.count(2));
    }
  }

  private static void halves() {
    says("the half of it (cut) for each time that this tune was played ..., again and again");
    StreetOrgans x = organ(notes(6), notes(8));
    x.street(90, EVERY_DAY);
    x.street(90, EVERY_DAY);
    x.street(90, EVERY_DAY);
    int[] want = {90, 45, 22, 11, 5, 2, 1, 0, 0, 0};
    // The other streets' coins buy felts for more plays than an int or a long has bits.
    for (int street = 1; street < 3; street++) {
      for (int pay : want) {
        due("street " + street, pay, x.pays(street, 0));
        due("street " + street + " pays so", pay, x.play(street, 0));
        x.felt(6);
      }
    }
    for (int i = 0; i < 70; i++) {
      due("played before: " + i, i < want.length ? want[i] : 0, x.play(0, 0));
      x.felt(6);
    }
    due("70 times", 70, x.told(0, 4));
    due("nothing is left", 0, x.pays(0, 0));
    due("another tune in this street", 90, x.pays(0, 1));
    x.rest(1);
    due("another day", 90, x.pays(0, 0));
    due("another day, another street", 90, x.pays(1, 0));
  }

  private static void crickets() {
    says("one whose felt is worn by 10 or more, and which was in no tune that was played");
    int[] worn = {0, 1, 9, 10, 11, 29, 30};
    for (int by : worn) {
      StreetOrgans x = organInAnEmptyStreet(notes(0), notes(5));
      play(x, 0, 0, by);
      if (by > 0) {
        due("worn by " + by + ", played on this day", 0, x.rest(1));
      }
      play(x, 0, 1, 1);
      due("worn by " + by + ", another was played", by >= 10 ? 1 : 0, x.rest(1));
      due("the cricket", by >= 10 ? 1 : 0, x.pipe(0, 2));
      due("it comes but once", 0, x.rest(60));
      due("and stays", by >= 10 ? 1 : 0, x.count(5));
    }

    StreetOrgans all = organInAnEmptyStreet(allPipes());
    play(all, 0, 0, 10);
    due("all were played", 0, all.rest(1));
    due("all", 12, all.rest(1));
    due("all have one", 12, all.count(5));
    due("no more", 0, all.rest(1));
  }

  private static void cricketsAndPlaying() {
    says("which was in no tune that was played on this day, has a cricket from now on");
    StreetOrgans x = organ(often(0, 12), notes(1, 2, 0), notes(3));
    x.street(0, EVERY_DAY);
    x.street(0, 0);
    play(x, 0, 0, 1);
    due("the day of its playing", 0, x.rest(1));
    x.play(0, 1);
    due("the last note of another tune", 0, x.rest(1));
    x.play(1, 0);
    due("fined is not played", 0, x.pipe(0, 4));
    due("so it comes", 1, x.rest(1));
    x.chase();
    x.play(0, 2);
    x.felt(0);
    due("a new felt", 0, x.rest(1));
    play(x, 0, 0, 1);
    due("worn by 12 again", 0, x.rest(1));
    due("it comes in the second night", 1, x.rest(60));
    x.play(0, 1);
    due("it stays while it is played", 1, x.pipe(0, 2));
    due("and over the night", 0, x.rest(1));
    due("one", 1, x.count(5));
  }

  private static void damps() {
    says("a pipe with an even number is off by as much more, one with an odd number by ... less");
    StreetOrgans x = new StreetOrgans();
    x.rest(1);
    due("the damp is 0 at first", 0, x.count(7));
    x.setDamp(1, 5);
    x.rest(1);
    for (int pipe = 0; pipe < 12; pipe++) {
      due("pipe " + pipe, pipe % 2 == 0 ? 5 : -5, x.pipe(pipe, 1));
    }
    x.rest(6);
    due("only on weekday 1", 60, x.count(7));
    x.rest(1);
    due("and a week later", 120, x.count(7));

    StreetOrgans y = new StreetOrgans();
    y.setDamp(6, 3);
    y.setDamp(0, 1);
    y.rest(6);
    due("weekday 0 once", 1, y.pipe(0, 1));
    y.rest(1);
    due("weekday 6 as it ends", 4, y.pipe(0, 1));
    y.rest(1);
    due("weekday 0 again", -5, y.pipe(11, 1));
  }

  private static void dampsHeld() {
    says("(held at -60 to 60)");
    int[][] offDampThen = {{60, 5, 60}, {59, 1, 60}, {59, 2, 60}, {56, 5, 60}, {55, 5, 60},
        {54, 5, 59}, {60, 0, 60}, {-60, 5, -55}, {-60, 0, -60}, {-3, 5, 2}};
    for (int[] row : offDampThen) {
      StreetOrgans x = new StreetOrgans();
      x.setDamp(0, row[1]);
      for (int pipe = 0; pipe < 12; pipe += 2) {
        x.tune(pipe, row[0]);
        x.tune(pipe + 1, -row[0]);
      }
      x.rest(1);
      for (int pipe = 0; pipe < 12; pipe += 2) {
        due("even, off by " + row[0] + ", damp " + row[1], row[2], x.pipe(pipe, 1));
        due("odd, off by " + -row[0] + ", damp " + row[1], -row[2], x.pipe(pipe + 1, 1));
      }
    }

    StreetOrgans y = organInAnEmptyStreet(often(2, 10));
    y.setDamp(1, 4);
    play(y, 0, 0, 1);
    y.rest(2);
    due("with the cricket that has just come", 4, y.pipe(2, 1));
    y.rest(7);
    due("with a cricket", 8, y.pipe(2, 1));
  }

  // ---- the promises

  private static void newObject() {
    says("Creates an organ without tunes, in a town without streets, on the day 0");
    StreetOrgans x = new StreetOrgans();
    due("day", 0, x.count(0));
    due("weekday", 0, x.count(1));
    due("coins", 20, x.count(2));
    due("tunes", 0, x.count(3));
    due("streets", 0, x.count(4));
    due("crickets", 0, x.count(5));
    due("worn", 0, x.count(6));
    due("off", 0, x.count(7));
    due("fines", 0, x.count(8));
    dueDouble("mean", 0, x.mean());
    due("nothing to chase", 0, x.chase());
    due("no crickets come", 0, x.foresee(60, 5));
    for (int none = 0; none < 8; none++) {
      int n = none;
      refused(x, INDEX, "pin " + n, () -> x.pin(n, 0));
      refused(x, INDEX, "note " + n, () -> x.note(n, 0));
      refused(x, INDEX, "permit " + n, () -> x.permit(n, 0));
      refused(x, INDEX, "play " + n, () -> x.play(n, n));
      refused(x, INDEX, "sound " + n, () -> x.sound(n));
      refused(x, INDEX, "told " + n, () -> x.told(n, 0));
      refused(x, INDEX, "pays " + n, () -> x.pays(n, n));
      refused(x, INDEX, "best " + n, () -> x.best(n));
      refused(x, INDEX, "worst " + n, () -> x.worst(n));
      refused(x, INDEX, "lasts " + n, () -> x.lasts(n));
    }
    for (int weekday = 0; weekday < 7; weekday++) {
      due("damp", 0, x.setDamp(weekday, 0));
    }
  }

  private static void barrel() {
    says("2: Throws IllegalStateException if there are 6");
    StreetOrgans x = new StreetOrgans();
    for (int tune = 0; tune < 6; tune++) {
      int next = tune;
      refused(x, INDEX, "not there yet", () -> x.sound(next));
      due("the number", tune, x.barrel());
      due("no notes", 0, x.sound(tune));
      refused(x, INDEX, "no notes", () -> x.note(next, 0));
    }
    refused(x, STATE, "the 7th", () -> x.barrel());
    x.rest(1);
    refused(x, STATE, "the 7th on another day", () -> x.barrel());
    refused(x, INDEX, "tune 6 is not there", () -> x.pin(6, 0));
    due("tune 5 is", 1, x.pin(5, 0));
  }

  private static void pin() {
    says("3: Throws IndexOutOfBoundsException if there is no such tune, or pipe is not 0 to 11");
    StreetOrgans x = organ(notes(), notes());
    for (int bad : outside(0, 1)) {
      refused(x, INDEX, "tune " + bad, () -> x.pin(bad, 0));
    }
    for (int bad : outside(0, 11)) {
      refused(x, INDEX, "pipe " + bad, () -> x.pin(1, bad));
    }
    due("the first tune and pipe", 1, x.pin(0, 0));
    due("the last tune and pipe", 1, x.pin(1, 11));

    says("3: Throws IllegalStateException if it has 16");
    for (int i = 2; i <= 16; i++) {
      due("notes", i, x.pin(0, i % 12));
    }
    refused(x, STATE, "the 17th", () -> x.pin(0, 0));
    refused(x, STATE, "the 17th again", () -> x.pin(0, 11));
    refused(x, INDEX, "pipe 12 is named first", () -> x.pin(0, 12));
    refused(x, INDEX, "pipe -1 is named first", () -> x.pin(0, -1));
    due("the other tune is not full", 2, x.pin(1, 0));
    StreetOrgans full = fullTown();
    for (int i = 0; i < 6; i++) {
      int tune = i;
      refused(full, STATE, "tune " + i + " of 6", () -> full.pin(tune, tune));
    }
  }

  private static void note() {
    says("4: Throws IndexOutOfBoundsException if there is no such tune or place");
    StreetOrgans x = organ(notes(11), notes(), often(4, 16));
    due("the only place", 11, x.note(0, 0));
    due("the first of 16", 4, x.note(2, 0));
    due("the last of 16", 4, x.note(2, 15));
    for (int bad : outside(0, 0)) {
      refused(x, INDEX, "place " + bad + " of one", () -> x.note(0, bad));
      refused(x, INDEX, "place " + bad + " of none", () -> x.note(1, bad));
    }
    refused(x, INDEX, "place 0 of none", () -> x.note(1, 0));
    for (int bad : outside(0, 15)) {
      refused(x, INDEX, "place " + bad + " of 16", () -> x.note(2, bad));
    }
    for (int bad : outside(0, 2)) {
      refused(x, INDEX, "tune " + bad, () -> x.note(bad, 0));
    }
    StreetOrgans full = fullTown();
    for (int tune = 0; tune < 6; tune++) {
      due("first", tune, full.note(tune, 0));
      due("last", (tune + 15) % 12, full.note(tune, 15));
    }
  }

  private static void street() {
    says("5: Throws IllegalArgumentException if listeners is not 0 to 90, or permits is not a set");
    StreetOrgans x = new StreetOrgans();
    for (int bad : outside(0, 90)) {
      refused(x, ARGUMENT, "listeners " + bad, () -> x.street(bad, 0));
    }
    for (int bad : outside(0, 127)) {
      refused(x, ARGUMENT, "permits " + bad, () -> x.street(0, bad));
    }
    due("the least", 0, x.street(0, 0));
    due("the most", 1, x.street(90, 127));
    due("0 listeners", 0, x.told(0, 0));
    due("90 listeners", 90, x.told(1, 0));
    due("0 permits", 0, x.told(0, 1));
    due("127 permits", 127, x.told(1, 1));

    says("5: Throws IllegalStateException if there are 8");
    for (int number = 2; number < 8; number++) {
      due("the number", number, x.street(number, number));
    }
    refused(x, STATE, "the 9th", () -> x.street(0, 0));
    refused(x, ARGUMENT, "listeners are named first", () -> x.street(-1, 0));
    refused(x, ARGUMENT, "listeners are named first", () -> x.street(91, 0));
    refused(x, ARGUMENT, "permits are named first", () -> x.street(0, -1));
    refused(x, ARGUMENT, "permits are named first", () -> x.street(0, 128));
    x.rest(1);
    refused(x, STATE, "the 9th on another day", () -> x.street(90, 127));
    due("the last", 7, x.told(7, 0));
  }

  private static void permit() {
    says("6: Throws IndexOutOfBoundsException if there is no such street");
    StreetOrgans x = new StreetOrgans();
    x.street(1, 0);
    x.street(1, 127);
    for (int bad : outside(0, 1)) {
      refused(x, INDEX, "street " + bad, () -> x.permit(bad, 0));
      refused(x, INDEX, "street " + bad + " is named first", () -> x.permit(bad, 128));
    }
    says("6: Throws IllegalArgumentException if permits is not a set of weekdays");
    for (int bad : outside(0, 127)) {
      refused(x, ARGUMENT, "permits " + bad, () -> x.permit(1, bad));
    }
    due("none before", 0, x.permit(0, 127));
    due("all before", 127, x.permit(1, 0));
    due("all now", 127, x.told(0, 1));
    due("none now", 0, x.told(1, 1));
    due("the same again", 127, x.permit(0, 127));
    StreetOrgans full = fullTown();
    due("the last of 8", 120, full.permit(7, 64));
    due("the last of 8 now", 64, full.told(7, 1));
    due("the one before it", 121, full.told(6, 1));
  }

  private static void setDamp() {
    says("7: Throws IndexOutOfBoundsException if weekday is not 0 to 6");
    StreetOrgans x = new StreetOrgans();
    for (int bad : outside(0, 6)) {
      refused(x, INDEX, "weekday " + bad, () -> x.setDamp(bad, 0));
      refused(x, INDEX, "weekday " + bad + " is named first", () -> x.setDamp(bad, 6));
    }
    says("7: Throws IllegalArgumentException if damp is not 0 to 5");
    for (int bad : outside(0, 5)) {
      refused(x, ARGUMENT, "damp " + bad, () -> x.setDamp(0, bad));
      refused(x, ARGUMENT, "damp " + bad, () -> x.setDamp(6, bad));
    }
    due("the first weekday, the most", 0, x.setDamp(0, 5));
    due("the last weekday, the most", 0, x.setDamp(6, 5));
    due("before", 5, x.setDamp(0, 0));
    due("before", 5, x.setDamp(6, 1));
    due("0 before", 0, x.setDamp(0, 0));
    due("1 before", 1, x.setDamp(6, 0));
  }

  private static void fine() {
    says("8: 10 coins are paid as a fine (as far as there are some)");
    // Coins before; then the fines that are paid one behind the other.
    int[][] coinsFines = {{20, 10, 10, 0, 0}, {19, 10, 9, 0, 0}, {12, 10, 2, 0, 0},
        {11, 10, 1, 0, 0}, {10, 10, 0, 0, 0}, {9, 9, 0, 0, 0}, {8, 8, 0, 0, 0}, {1, 1, 0, 0, 0},
        {0, 0, 0, 0, 0}};
    for (int[] row : coinsFines) {
      StreetOrgans x = organWithCoins(row[0]);
      int left = row[0];
      int paid = 0;
      for (int i = 1; i < row.length; i++) {
        due("of " + left + " coins", -row[i], x.play(1, 0));
        left -= row[i];
        paid += row[i];
        due("left", left, x.count(2));
        due("fines in all", paid, x.count(8));
      }
      due("not played: worn", 0, x.pipe(0, 0));
      due("not played: on this day", 0, x.pipe(0, 4));
      due("not played: in the street", 0, x.told(1, 4));
      due("not played: paid", 0, x.told(1, 3));
      due("not played: no half", 90, x.pays(1, 0));
    }
  }

  /** So many coins, 0 to 20; its tune 0 is not worn, and its street 1 has no permit. */
  private static StreetOrgans organWithCoins(int coins) {
    StreetOrgans x = organ(notes(0), notes(9));
    x.street(coins % 4, EVERY_DAY);
    x.street(90, 0);
    if (coins % 4 != 0) {
      x.play(0, 1);
    }
    while (x.count(2) > coins) {
      x.felt(9);
    }
    due("coins", coins, x.count(2));
    return x;
  }

  private static void playRefused() {
    says("8: Throws IndexOutOfBoundsException if there is no such street or tune");
    StreetOrgans x = organ(notes(0), notes(), notes(11));
    x.street(90, EVERY_DAY);
    x.street(90, 0);
    for (int bad : outside(0, 1)) {
      refused(x, INDEX, "street " + bad, () -> x.play(bad, 0));
      refused(x, INDEX, "street " + bad + " is named first", () -> x.play(bad, 1));
    }
    for (int bad : outside(0, 2)) {
      refused(x, INDEX, "tune " + bad, () -> x.play(0, bad));
      refused(x, INDEX, "tune " + bad + " without a permit: no fine", () -> x.play(1, bad));
    }
    says("8: Throws IllegalStateException if the tune has no notes");
    refused(x, STATE, "no notes", () -> x.play(0, 1));
    refused(x, STATE, "no notes, no permit: no fine", () -> x.play(1, 1));
    x.pin(1, 4);
    due("a single note", 90, x.play(0, 1));
    due("the first", 90, x.play(0, 0));
    due("the last", 90, x.play(0, 2));
    due("no permit", -10, x.play(1, 2));
    StreetOrgans full = fullTown();
    due("the last street, the last tune, on the weekday 0", -10, full.play(7, 5));
    full.permit(7, 1);
    due("the last street, the last tune, permitted", 83, full.play(7, 5));
    due("in this street", 1, full.told(7, 4));
    due("not in the one before it", 0, full.told(6, 4));
  }

  private static void playPermitted() {
    says("8: Without a permit for this weekday it is not played");
    StreetOrgans x = organ(notes(0));
    x.street(3, 64);
    for (int day = 0; day < 14; day++) {
      int coins = x.count(2);
      int came = x.play(0, 0);
      due("day " + day, day % 7 == 6 ? 1 : 0, x.told(0, 4));
      due("coins of day " + day, coins + came, x.count(2));
      x.rest(1);
    }
    due("worn twice", 2, x.pipe(0, 0));
    due("fines", 20 + 3, x.count(8));

    says("8: the felts of its notes are worn by 1 more for each note (at most 30)");
    StreetOrgans y = organInAnEmptyStreet(notes(0, 11, 0), often(11, 14));
    due("nobody listens", 0, y.play(0, 0));
    due("twice", 2, y.pipe(0, 0));
    due("once", 1, y.pipe(11, 0));
    due("not in it", 0, y.pipe(1, 0));
    due("played for nothing", 1, y.told(0, 4));
    play(y, 0, 1, 2);
    due("29", 29, y.pipe(11, 0));
    play(y, 0, 0, 1);
    due("30", 30, y.pipe(11, 0));
    play(y, 0, 0, 1);
    due("30 and no more", 30, y.pipe(11, 0));
    due("the other goes on", 6, y.pipe(0, 0));
  }

  private static void tune() {
    says("9: held at -60 to 60");
    int[][] offByThen = {{0, 0, 0}, {0, 60, 60}, {0, 61, 60}, {0, 59, 59}, {0, -60, -60},
        {0, -61, -60}, {0, -59, -59}, {0, 120, 60}, {0, -120, -60}, {60, 1, 60}, {60, 120, 60},
        {60, -120, -60}, {60, -119, -59}, {60, -1, 59}, {-60, -1, -60}, {-60, -120, -60},
        {-60, 120, 60}, {-60, 119, 59}, {-60, 1, -59}, {59, 1, 60}, {-59, -1, -60}, {59, 2, 60},
        {-59, -2, -60}, {1, -2, -1}, {60, 0, 60}, {-60, 0, -60}};
    for (int[] row : offByThen) {
      StreetOrgans x = new StreetOrgans();
      due("at first", row[0], x.tune(11, row[0]));
      due("off by " + row[0] + ", by " + row[1], row[2], x.tune(11, row[1]));
      due("it stays so", row[2], x.pipe(11, 1));
      due("without the sign", Math.abs(row[2]), x.count(7));
    }
    says("9: Throws IndexOutOfBoundsException if pipe is not 0 to 11");
    StreetOrgans x = new StreetOrgans();
    for (int bad : outside(0, 11)) {
      refused(x, INDEX, "pipe " + bad, () -> x.tune(bad, 1));
      refused(x, INDEX, "pipe " + bad + " is named first", () -> x.tune(bad, 121));
    }
    says("9: Throws IllegalArgumentException if by is not -120 to 120");
    for (int bad : outside(-120, 120)) {
      refused(x, ARGUMENT, "by " + bad, () -> x.tune(0, bad));
      refused(x, ARGUMENT, "by " + bad, () -> x.tune(11, bad));
    }
    due("the first pipe", 60, x.tune(0, 120));
    due("the last pipe", -60, x.tune(11, -120));
  }

  private static void felt() {
    says("10: Throws IndexOutOfBoundsException if pipe is not 0 to 11");
    StreetOrgans x = new StreetOrgans();
    for (int bad : outside(0, 11)) {
      refused(x, INDEX, "pipe " + bad, () -> x.felt(bad));
    }
    due("the first, not worn", 0, x.felt(0));
    due("the last, not worn", 0, x.felt(11));
    due("4 coins each", 12, x.count(2));

    says("10: Throws IllegalStateException if there are less than 4 coins");
    for (int coins = 0; coins < 8; coins++) {
      StreetOrgans y = organWithCoins(coins);
      if (coins < 4) {
        refused(y, STATE, coins + " coins", () -> y.felt(0));
        for (int bad : outside(0, 11)) {
          refused(y, INDEX, "pipe " + bad + " is named first", () -> y.felt(bad));
        }
      } else {
        due(coins + " coins", 0, y.felt(0));
        due("left", coins - 4, y.count(2));
        refused(y, STATE, "too few are left", () -> y.felt(0));
      }
    }
  }

  private static void feltOfAWornPipe() {
    says("10: Returns by how much the old one was worn");
    StreetOrgans x = organInAnEmptyStreet(often(5, 15), notes(6));
    x.tune(5, -7);
    play(x, 0, 0, 3);
    play(x, 0, 1, 1);
    due("the most", 30, x.felt(5));
    due("none", 0, x.felt(5));
    due("1", 1, x.felt(6));
    due("it is off as before", -7, x.pipe(5, 1));
    due("it was played as before", 1, x.pipe(5, 4));
    due("coins", 8, x.count(2));
  }

  private static void chase() {
    says("11: Returns how many there were");
    StreetOrgans x = organInAnEmptyStreet(allPipes(), notes(0), notes(11));
    due("none", 0, x.chase());
    play(x, 0, 0, 10);
    x.rest(1);
    due("none on the day behind", 0, x.chase());
    x.rest(1);
    due("all", 12, x.chase());
    due("none is left", 0, x.chase());
    due("none is there", 0, x.count(5));
    x.play(0, 1);
    x.rest(1);
    due("all but the first", 11, x.chase());
    x.play(0, 2);
    x.rest(1);
    due("all but the last", 11, x.chase());
    due("coins", 20, x.count(2));
  }

  private static void pipe() {
    says("12: Throws IndexOutOfBoundsException if pipe is not 0 to 11, or what is not 0 to 4");
    StreetOrgans x = organInAnEmptyStreet(often(0, 16), notes(11));
    for (int bad : outside(0, 11)) {
      refused(x, INDEX, "pipe " + bad, () -> x.pipe(bad, 0));
      refused(x, INDEX, "pipe " + bad + ", what 5", () -> x.pipe(bad, 5));
    }
    for (int bad : outside(0, 4)) {
      refused(x, INDEX, "what " + bad, () -> x.pipe(0, bad));
      refused(x, INDEX, "what " + bad, () -> x.pipe(11, bad));
    }
    play(x, 0, 0, 2);
    x.tune(0, -120);
    x.tune(11, 120);
    int[] first = {30, -60, 0, 60, 1};
    int[] last = {0, 60, 0, 60, 0};
    for (int what = 0; what < 5; what++) {
      due("the first, " + what, first[what], x.pipe(0, what));
      due("the last, " + what, last[what], x.pipe(11, what));
    }

    says("12: 4 1 if it was in a tune that was played on this day, else 0");
    x.rest(1);
    due("on the next day", 0, x.pipe(0, 4));
    x.play(0, 1);
    due("in the tune", 1, x.pipe(11, 4));
    due("in another", 0, x.pipe(0, 4));
    x.pin(1, 4);
    due("pinned behind the playing", 0, x.pipe(4, 4));
    x.play(0, 1);
    due("played with it", 1, x.pipe(4, 4));
    x.street(90, 0);
    x.play(1, 0);
    due("fined", 0, x.pipe(0, 4));
  }

  private static void sound() {
    says("13: Throws IndexOutOfBoundsException if there is no such tune");
    StreetOrgans x = organ(notes(0), notes(11));
    x.tune(0, 60);
    x.tune(11, 1);
    due("the first", 0, x.sound(0));
    due("the last", 59, x.sound(1));
    for (int bad : outside(0, 1)) {
      refused(x, INDEX, "tune " + bad, () -> x.sound(bad));
    }
    StreetOrgans full = fullTown();
    full.tune(0, 16);
    for (int tune = 0; tune < 6; tune++) {
      // Of 16 notes from a pipe on, those of the first four places come twice.
      due("tune " + tune + " of 6", tune == 0 ? 58 : 59, full.sound(tune));
    }
    for (int bad : outside(0, 5)) {
      refused(full, INDEX, "tune " + bad + " of 6", () -> full.sound(bad));
    }
  }

  private static void told() {
    says("14: Throws IndexOutOfBoundsException if there is no such street, or what is not 0 to 4");
    StreetOrgans x = organ(notes(0));
    x.street(0, 0);
    x.street(90, 127);
    for (int bad : outside(0, 1)) {
      refused(x, INDEX, "street " + bad, () -> x.told(bad, 0));
      refused(x, INDEX, "street " + bad + ", what 5", () -> x.told(bad, 5));
    }
    for (int bad : outside(0, 4)) {
      refused(x, INDEX, "what " + bad, () -> x.told(0, bad));
      refused(x, INDEX, "what " + bad, () -> x.told(1, bad));
    }
    play(x, 1, 0, 2);
    int[] last = {90, 127, 1, 90 + 43, 2};
    for (int what = 0; what < 5; what++) {
      due("the first, " + what, 0, x.told(0, what));
      due("the last, " + what, last[what], x.told(1, what));
    }

    says("14: 3 coins that it paid in all, 4 tunes that were played there on this day");
    x.rest(1);
    due("paid on another day", 133, x.told(1, 3));
    due("played on another day", 0, x.told(1, 4));
    x.play(0, 0);
    due("a fine is not paid by the street", 0, x.told(0, 3));
    due("nor played", 0, x.told(0, 4));
  }

  private static void count() {
    says("15: Throws IndexOutOfBoundsException if what is not 0 to 8");
    StreetOrgans x = fullTown();
    for (int bad : outside(0, 8)) {
      refused(x, INDEX, "what " + bad, () -> x.count(bad));
    }
    due("tunes", 6, x.count(3));
    due("streets", 8, x.count(4));

    says("15: 5 ..., 6 ..., 7 how far all pipes are off, each without the sign, added");
    StreetOrgans y = organInAnEmptyStreet(allPipes());
    play(y, 0, 0, 30);
    for (int pipe = 0; pipe < 12; pipe++) {
      y.tune(pipe, pipe % 3 == 0 ? 120 : -120);
    }
    y.rest(2);
    due("all crickets", 12, y.count(5));
    due("all worn", 360, y.count(6));
    due("all off", 720, y.count(7));
  }

  private static void rest() {
    says("16: Throws IllegalArgumentException if nights is not 1 to 60");
    StreetOrgans x = fullTown();
    x.play(1, 0);
    for (int bad : outside(1, 60)) {
      refused(x, ARGUMENT, "nights " + bad, () -> x.rest(bad));
    }
    due("the least", 0, x.rest(1));
    due("day", 1, x.count(0));
    due("the most", 0, x.rest(60));
    due("day", 61, x.count(0));

    says("16: Lets nights go by");
    for (int nights = 1; nights <= 60; nights++) {
      StreetOrgans atOnce = organBeforeNights(nights % 7);
      StreetOrgans oneByOne = organBeforeNights(nights % 7);
      int came = 0;
      for (int i = 0; i < nights; i++) {
        came += oneByOne.rest(1);
      }
      due("crickets of " + nights + " nights", came, atOnce.rest(nights));
      due("all else", oneByOne.digest(), atOnce.digest());
    }
  }

  /** On the weekday, with another damp for each, and pipes that wait for crickets. */
  private static StreetOrgans organBeforeNights(int weekday) {
    StreetOrgans x = organInAnEmptyStreet(often(0, 11), often(7, 9), often(11, 10));
    x.street(90, EVERY_DAY);
    for (int i = 0; i < 7; i++) {
      x.setDamp(i, (i * 2 + 1) % 6);
    }
    x.tune(4, -60);
    x.tune(5, 60);
    x.tune(6, 30);
    play(x, 0, 0, 1);
    play(x, 0, 1, 1);
    if (weekday > 0) {
      x.rest(weekday);
    }
    play(x, 1, 2, 2);
    return x;
  }

  private static void pays() {
    says("17: what it would pay now, whatever permits it has");
    StreetOrgans x = organ(notes(0), notes());
    x.street(90, 0);
    x.street(90, 127);
    due("no permits", 90, x.pays(0, 0));
    due("all permits", 90, x.pays(1, 0));
    due("no notes", 0, x.pays(1, 1));
    x.play(0, 0);
    due("fined, not played", 90, x.pays(0, 0));
    x.permit(0, 127);
    x.play(0, 0);
    x.permit(0, 0);
    due("played, then without a permit", 43, x.pays(0, 0));

    says("17: Throws IndexOutOfBoundsException if there is no such street or tune");
    for (int bad : outside(0, 1)) {
      refused(x, INDEX, "street " + bad, () -> x.pays(bad, 0));
      refused(x, INDEX, "tune " + bad, () -> x.pays(0, bad));
      refused(x, INDEX, "both " + bad, () -> x.pays(bad, bad));
    }
    StreetOrgans full = fullTown();
    for (int bad : outside(0, 7)) {
      refused(full, INDEX, "street " + bad + " of 8", () -> full.pays(bad, 0));
    }
    for (int bad : outside(0, 5)) {
      refused(full, INDEX, "tune " + bad + " of 6", () -> full.pays(0, bad));
    }
    due("the last", 83, full.pays(7, 5));
  }

  private static void best() {
    says("18: of several the one with the smallest number; -1 if it would pay for none");
    StreetOrgans x = new StreetOrgans();
    x.street(90, 0);
    x.street(0, 127);
    x.street(1, 127);
    due("no tunes", -1, x.best(0));
    x.barrel();
    due("no notes", -1, x.best(0));
    for (int pipe = 1; pipe < 6; pipe++) {
      x.pin(x.barrel(), pipe);
    }
    due("of several, the empty one not", 1, x.best(0));
    due("nobody listens", -1, x.best(1));
    due("a single listener", 1, x.best(2));
    for (int pipe = 1; pipe < 5; pipe++) {
      x.tune(pipe, pipe);
    }
    due("the last", 5, x.best(0));
    due("one coin for it alone", 5, x.best(2));
    x.tune(5, 1);
    due("cut to the same: 89 for 1 and 5", 1, x.best(0));
    due("less than a coin for each", -1, x.best(2));
    x.pin(0, 0);
    due("the first", 0, x.best(0));
    x.permit(2, 127);
    x.play(2, 0);
    due("the half of a coin", -1, x.best(2));
    x.rest(1);
    for (int pipe = 0; pipe < 6; pipe++) {
      x.tune(pipe, 120);
    }
    due("no sound", -1, x.best(0));

    says("18: Throws IndexOutOfBoundsException if there is no such street");
    for (int bad : outside(0, 2)) {
      refused(x, INDEX, "street " + bad, () -> x.best(bad));
    }
    StreetOrgans full = fullTown();
    due("the last of 8", 0, full.best(7));
    for (int bad : outside(0, 7)) {
      refused(full, INDEX, "street " + bad + " of 8", () -> full.best(bad));
    }
  }

  private static void worst() {
    says("19: of several the one with the smallest number; -1 if it would be no greater by any");
    StreetOrgans x = organ(notes(), notes(11), allPipes(), notes(3, 3, 8), often(9, 16));
    for (int tune = 0; tune < 5; tune++) {
      due("no harm, tune " + tune, -1, x.worst(tune));
    }
    x.tune(11, 1);
    due("a single harm", 11, x.worst(1));
    due("a harm that is cut: 1 / 12", -1, x.worst(2));
    due("a harm of another pipe", -1, x.worst(3));
    due("no notes", -1, x.worst(0));
    x.tune(11, 10);
    due("11 / 12", -1, x.worst(2));
    x.tune(11, 1);
    due("12 / 12", 11, x.worst(2));
    x.tune(0, -12);
    due("of several the first", 0, x.worst(2));
    x.tune(11, 1);
    due("25 / 12: each leaves 1", 0, x.worst(2));
    x.tune(11, 10);
    due("35 / 12: 11 leaves 1, 0 leaves 1", 0, x.worst(2));
    x.tune(11, 1);
    due("36 / 12: 11 leaves 1, 0 leaves 2", 11, x.worst(2));
    x.tune(3, 4);
    x.tune(8, -9);
    due("9 is more than 8", 8, x.worst(3));
    x.tune(3, 1);
    due("10 is more than 9", 3, x.worst(3));
    x.tune(9, 60);
    due("the only one of 16 notes", 9, x.worst(4));
    x.tune(0, 120);
    x.tune(11, -120);
    due("both 60", 0, x.worst(2));

    says("19: Throws IndexOutOfBoundsException if there is no such tune");
    for (int bad : outside(0, 4)) {
      refused(x, INDEX, "tune " + bad, () -> x.worst(bad));
    }
  }

  private static void worstAtTheMostHarm() {
    says("19: the pipe by which, if it had no harm, the sound of the tune would be the greatest");
    StreetOrgans x = organInAnEmptyStreet(notes(2, 7), often(7, 10), notes(7, 2));
    play(x, 0, 1, 1);
    x.rest(2);
    x.tune(7, 60);
    due("a cricket alone", 7, x.worst(0));
    x.tune(2, 59);
    due("60 is more than 59", 7, x.worst(0));
    x.tune(2, 1);
    due("60 and 60", 2, x.worst(0));
    due("60 and 60 in the other order", 2, x.worst(2));
    x.chase();
    due("off by 60 and worn by 10 is no more than 60", 2, x.worst(0));
  }

  private static void foresee() {
    says("20: Throws IllegalArgumentException if nights is not 1 to 60");
    StreetOrgans x = organBeforeNights(3);
    for (int bad : outside(1, 60)) {
      refused(x, ARGUMENT, "nights " + bad, () -> x.foresee(bad, 5));
      refused(x, ARGUMENT, "nights " + bad + " is named first", () -> x.foresee(bad, 4));
      refused(x, ARGUMENT, "nights " + bad + " is named first", () -> x.foresee(bad, 8));
    }
    says("20: Throws IndexOutOfBoundsException if what is not 5 to 7");
    for (int bad : outside(5, 7)) {
      refused(x, INDEX, "what " + bad, () -> x.foresee(1, bad));
      refused(x, INDEX, "what " + bad, () -> x.foresee(60, bad));
    }
    for (int bad : notes(0, 1, 2, 3, 4, 8)) {
      refused(x, INDEX, "what " + bad, () -> x.foresee(1, bad));
    }

    says("20: Returns this, behind so many nights, if nothing is done (nothing is changed)");
    for (int nights = 1; nights <= 60; nights++) {
      StreetOrgans y = organBeforeNights(nights % 7);
      int[] foreseen = new int[8];
      for (int what = 5; what < 8; what++) {
        long before = y.digest();
        foreseen[what] = y.foresee(nights, what);
        due("nothing is changed", before, y.digest());
      }
      y.rest(nights);
      for (int what = 5; what < 8; what++) {
        due("behind " + nights + " nights, " + what, y.count(what), foreseen[what]);
      }
    }
  }

  private static void lasts() {
    says("21: till its sound is less than 30");
    // The harm of a tune of one note; then how often it could be played.
    int[][] offLasts = {{0, 16}, {1, 15}, {2, 15}, {27, 2}, {28, 2}, {29, 1}, {30, 1}, {31, 0},
        {60, 0}, {-28, 2}, {-29, 1}, {-30, 1}, {-31, 0}, {-60, 0}};
    for (int[] row : offLasts) {
      StreetOrgans x = organInAnEmptyStreet(notes(11), notes(0));
      x.tune(11, row[0]);
      long before = x.digest();
      due("off by " + row[0], row[1], x.lasts(0));
      due("nothing is changed", before, x.digest());
      due("the other tune", 16, x.lasts(1));
      int plays = 0;
      while (x.sound(0) >= 30) {
        x.play(0, 0);
        plays++;
      }
      due("it comes so", row[1], plays);
    }

    says("21: 0 if it is already, or without notes");
    StreetOrgans y = organInAnEmptyStreet(notes(), often(5, 16), often(6, 10), notes(1, 2));
    due("without notes", 0, y.lasts(0));
    due("16 at once", 1, y.lasts(1));
    y.play(0, 2);
    due("10 at once, then 40 is not less than 30", 1, y.lasts(2));
    y.rest(2);
    due("a cricket", 0, y.lasts(2));
    y.tune(1, 60);
    // The harms are 60 and none: the mean is 30, 31 and 32 with each playing.
    due("30 is not less than 30", 1, y.lasts(3));
    y.tune(2, 1);
    due("61 / 2 is cut", 1, y.lasts(3));
    y.tune(2, 1);
    due("62 / 2 is not", 0, y.lasts(3));

    says("21: Throws IndexOutOfBoundsException if there is no such tune");
    for (int bad : outside(0, 3)) {
      refused(y, INDEX, "tune " + bad, () -> y.lasts(bad));
    }
    StreetOrgans full = fullTown();
    // Of 16 notes four pipes come twice: each playing adds 2 * (4 * 4 + 8) to the harms.
    due("the last of 6", 11, full.lasts(5));
    for (int bad : outside(0, 5)) {
      refused(full, INDEX, "tune " + bad + " of 6", () -> full.lasts(bad));
    }
  }

  private static void mean() {
    says("22: 0 if there are none");
    StreetOrgans x = new StreetOrgans();
    dueDouble("none", 0, x.mean());
    x.barrel();
    dueDouble("one without notes", 0, x.mean());
    x.pin(0, 0);
    dueDouble("one", 60, x.mean());
    x.barrel();
    dueDouble("two, one without notes", 30, x.mean());
    x.barrel();
    dueDouble("three", 20, x.mean());
    x.tune(0, 1);
    dueDouble("59 of three", 59 / 3.0, x.mean());
    x.barrel();
    x.barrel();
    x.barrel();
    dueDouble("59 of six", 59 / 6.0, x.mean());
    x.tune(0, 59);
    dueDouble("no sound", 0, x.mean());
    StreetOrgans full = fullTown();
    dueDouble("six", 60, full.mean());
    full.tune(0, 16);
    dueDouble("58 and five of 59", 353 / 6.0, full.mean());
  }

  private static long add(long d, long x) {
    return d * 31 + x;
  }

  private static long digestOfANewObject() {
    long d = 1097;
    int[] counts = {0, 0, 20, 0, 0, 0, 0, 0, 0};
    for (int x : counts) {
      d = add(d, x);
    }
    for (int i = 0; i < 12 * 5 + 7; i++) {
      d = add(d, 0);
    }
    return d;
  }

  private static long digestWithAnEmptyTuneAndAShortOne() {
    long d = 1097;
    int[] counts = {0, 0, 20, 2, 1, 0, 0, 0, 0};
    for (int x : counts) {
      d = add(d, x);
    }
    for (int i = 0; i < 12 * 5 + 7; i++) {
      d = add(d, 0);
    }
    // Without notes 0 and the sound; with one note 1, its pipe and the sound; then the street.
    int[] tunesAndStreet = {0, 0, 1, 11, 60, 90, 0, 0, 0, 0, 0, 90};
    for (int x : tunesAndStreet) {
      d = add(d, x);
    }
    return d;
  }

  private static long digestOfAFullTown() {
    long d = 1097;
    int[] counts = {0, 0, 20, 6, 8, 0, 0, 60, 0};
    for (int x : counts) {
      d = add(d, x);
    }
    for (int i = 0; i < 12 * 5; i++) {
      // Pipe 0 alone is off, by -60, which is its harm too.
      d = add(d, i == 1 ? -60 : i == 3 ? 60 : 0);
    }
    for (int weekday = 0; weekday < 7; weekday++) {
      d = add(d, weekday % 6);
    }
    int[] sounds = {53, 57, 57, 57, 57, 57};
    for (int tune = 0; tune < 6; tune++) {
      d = add(d, 16);
      for (int place = 0; place < 16; place++) {
        d = add(d, (tune + place) % 12);
      }
      d = add(d, sounds[tune]);
    }
    for (int street = 0; street < 8; street++) {
      d = add(d, 90 - street);
      d = add(d, 127 - street);
      d = add(d, 1 - street % 2);
      d = add(d, 0);
      d = add(d, 0);
      for (int sound : sounds) {
        d = add(d, (90 - street) * sound / 60);
      }
    }
    return d;
  }

  private static void digest() {
    says("23: which wraps around as a 64-bit integer");
    due("empty", digestOfANewObject(), new StreetOrgans().digest());
    StreetOrgans small = organ(notes(), notes(11));
    small.street(90, 0);
    due("a tune without notes", digestWithAnEmptyTuneAndAShortOne(), small.digest());
    StreetOrgans x = fullTown();
    x.tune(0, -60);
    for (int weekday = 0; weekday < 7; weekday++) {
      x.setDamp(weekday, weekday % 6);
    }
    due("full", digestOfAFullTown(), x.digest());
    due("again", digestOfAFullTown(), x.digest());
  }

  // ---- what goes for all calls

  private static void askingChangesNothing() {
    says("what only tells, changes nothing");
    StreetOrgans x = organBeforeNights(5);
    long before = x.digest();
    for (int i = 0; i < 3; i++) {
      x.note(i, 0);
      x.pipe(11, i);
      x.sound(i);
      x.told(1, i);
      x.count(i);
      x.pays(1, i);
      x.best(1);
      x.worst(i);
      x.foresee(60, 5 + i);
      x.lasts(i);
      x.mean();
      due("the state", before, x.digest());
    }
    StreetOrgans unasked = organBeforeNights(5);
    due("the crickets of the next night", unasked.rest(1), x.rest(1));
    due("the state behind it", unasked.digest(), x.digest());
  }

  private static void objectsAreApart() {
    says("Creates an organ");
    StreetOrgans x = fullTown();
    StreetOrgans y = new StreetOrgans();
    due("the other is new", digestOfANewObject(), y.digest());
    y.setDamp(0, 5);
    y.street(90, EVERY_DAY);
    y.pin(y.barrel(), 0);
    y.play(0, 0);
    y.rest(60);
    due("this one is as it was", fullTown().digest(), x.digest());
  }

  public static void main(String[] args) {
    calls();
    weekday();
    worn();
    harm();
    harmWithACricket();
    rows();
    sounds();
    permitBits();
    pay();
    halves();
    crickets();
    cricketsAndPlaying();
    damps();
    dampsHeld();
    newObject();
    barrel();
    pin();
    note();
    street();
    permit();
    setDamp();
    fine();
    playRefused();
    playPermitted();
    tune();
    felt();
    feltOfAWornPipe();
    chase();
    pipe();
    sound();
    told();
    count();
    rest();
    pays();
    best();
    worst();
    worstAtTheMostHarm();
    foresee();
    lasts();
    mean();
    digest();
    askingChangesNothing();
    objectsAreApart();
    System.out.println(checks + " checks, " + wrong + " wrong");
    if (wrong != 0) {
      System.exit(1);
    }
  }
}
