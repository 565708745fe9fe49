import java.lang.reflect.Constructor;
import java.lang.reflect.Member;
import java.lang.reflect.Method;
import java.lang.reflect.Modifier;
import java.util.ArrayList;
import java.util.Arrays;
import java.util.List;
import java.util.TreeSet;

/** Tests each promise of the document by hand-made runs; ends with exit code 1 if one fails. */
public final class StreetOrgansTest {
  private static final Class<IndexOutOfBoundsException> INDEX = IndexOutOfBoundsException.class;
  private static final Class<IllegalArgumentException> ARGUMENT = IllegalArgumentException.class;
  private static final Class<IllegalStateException> STATE = IllegalStateException.class;
  private static final int LEAST = Integer.MIN_VALUE;
  private static final int MOST = Integer.MAX_VALUE;

  private static String section = "";
  private static int checks = 0;
  private static int wrong = 0;

  private static void due(String what, double want, double got) {
    checks++;
    if (got != want) {
      fail(what + ": " + got + ", due is " + want);
    }
  }

  private static void dueLong(String what, long want, long got) {
    checks++;
    if (got != want) {
      fail(what + ": " + got + ", due is " + want);
    }
  }

  private static void fail(String message) {
    wrong++;
    System.out.println(section + ": " + message);
  }

  /** The call throws exactly this class, and the object is as before. */
  private static void refused(
      StreetOrgans x, Class<? extends RuntimeException> want, String what, Runnable call) {
    checks++;
    long before = x.digest();
    Class<?> got = null;
    try {
      call.run();
    } catch (RuntimeException e) {
      got = e.getClass();
    }
    if (got != want) {
      fail(what + " threw " + got + ", due is " + want);
    }
    if (x.digest() != before) {
      fail(what + " changed the object");
    }
  }

  private static StreetOrgans organ(int[]... tunes) {
    StreetOrgans x = new StreetOrgans();
    for (int[] notes : tunes) {
      int tune = x.barrel();
      for (int pipe : notes) {
        x.pin(tune, pipe);
      }
    }
    return x;
  }

  private static int[] notes(int... pipes) {
    return pipes;
  }

  private static void playOften(StreetOrgans x, int street, int tune, int times) {
    for (int i = 0; i < times; i++) {
      x.play(street, tune);
    }
  }

  private static void payFines(StreetOrgans x, int times) {
    int street = x.street(0, 0);
    playOften(x, street, 0, times);
  }

  private static void theFace() {
    section = "face";
    List<String> want = new ArrayList<>(Arrays.asList(
        "int barrel()", "int pin(int,int)", "int note(int,int)", "int street(int,int)",
        "int permit(int,int)", "int setDamp(int,int)", "int play(int,int)", "int tune(int,int)",
        "int felt(int)", "int chase()", "int pipe(int,int)", "int sound(int)", "int told(int,int)",
        "int count(int)", "int rest(int)", "int pays(int,int)", "int best(int)", "int worst(int)",
        "int foresee(int,int)", "int lasts(int)", "double mean()", "long digest()"));
    TreeSet<String> open = new TreeSet<>();
    for (Method m : StreetOrgans.class.getDeclaredMethods()) {
      if (!Modifier.isPrivate(m.getModifiers())) {
        StringBuilder s = new StringBuilder(m.getReturnType() + " " + m.getName() + "(");
        for (Class<?> p : m.getParameterTypes()) {
          s.append(s.charAt(s.length() - 1) == '(' ? "" : ",").append(p);
        }
        open.add(s.append(')').toString());
      } else if (want.stream().anyMatch(w -> w.contains(" " + m.getName() + "("))) {
        fail("a private method bears a public name: " + m);
      }
    }
    dueLong("the open methods are those of the document, else 0: " + open,
        1, open.equals(new TreeSet<>(want)) ? 1 : 0);
    List<Member> fields = new ArrayList<>(Arrays.asList(StreetOrgans.class.getDeclaredFields()));
    fields.removeIf(f -> Modifier.isPrivate(f.getModifiers()));
    dueLong("fields that are not private", 0, fields.size());
    Constructor<?>[] made = StreetOrgans.class.getDeclaredConstructors();
    dueLong("constructors", 1, made.length);
    dueLong("its parameters", 0, made[0].getParameterCount());
    int modifiers = StreetOrgans.class.getModifiers();
    dueLong("public and final", 1,
        Modifier.isPublic(modifiers) && Modifier.isFinal(modifiers) ? 1 : 0);
  }

  private static void aNewObject() {
    section = "1 a new object";
    StreetOrgans x = new StreetOrgans();
    int[] counts = {0, 0, 20, 0, 0, 0, 0, 0, 0};
    for (int what = 0; what < counts.length; what++) {
      due("count " + what, counts[what], x.count(what));
    }
    for (int pipe = 0; pipe < 12; pipe++) {
      for (int what = 0; what < 5; what++) {
        due("pipe " + pipe + " " + what, 0, x.pipe(pipe, what));
      }
    }
    for (int weekday = 0; weekday < 7; weekday++) {
      due("damp " + weekday, 0, x.setDamp(weekday, 0));
    }
    StreetOrgans other = new StreetOrgans();
    other.barrel();
    other.street(5, 5);
    due("tunes are not shared", 0, x.count(3));
    due("streets are not shared", 0, x.count(4));
  }

  private static void barrel() {
    section = "2 barrel";
    StreetOrgans x = new StreetOrgans();
    for (int i = 0; i < 6; i++) {
      due("number", i, x.barrel());
      due("tunes", i + 1, x.count(3));
      due("notes, none: sound", 0, x.sound(i));
    }
    refused(x, STATE, "a 7th tune", () -> x.barrel());
    refused(x, STATE, "a 7th tune, again", () -> x.barrel());
    due("the last can be pinned", 1, x.pin(5, 11));
  }

  private static void pin() {
    section = "3 pin";
    StreetOrgans x = organ(notes(), notes());
    for (int i = 0; i < 16; i++) {
      due("notes then", i + 1, x.pin(1, (i * 5 + 11) % 12));
    }
    for (int i = 0; i < 16; i++) {
      due("note " + i, (i * 5 + 11) % 12, x.note(1, i));
    }
    refused(x, STATE, "a 17th note", () -> x.pin(1, 0));
    refused(x, INDEX, "a wrong pipe on a full tune", () -> x.pin(1, 12));
    for (int bad : notes(-1, 12, LEAST, MOST)) {
      refused(x, INDEX, "pipe " + bad, () -> x.pin(0, bad));
    }
    for (int bad : notes(-1, 2, 6, LEAST, MOST)) {
      refused(x, INDEX, "tune " + bad, () -> x.pin(bad, 0));
    }
    due("the other tune has none before", 1, x.pin(0, 3));
    due("a pipe comes again", 2, x.pin(0, 3));
  }

  private static void note() {
    section = "4 note";
    StreetOrgans x = organ(notes(7, 0, 11, 7), notes());
    int[] want = {7, 0, 11, 7};
    for (int i = 0; i < 4; i++) {
      due("place " + i, want[i], x.note(0, i));
    }
    for (int bad : notes(-1, 4, 16, LEAST, MOST)) {
      refused(x, INDEX, "place " + bad, () -> x.note(0, bad));
    }
    refused(x, INDEX, "no notes", () -> x.note(1, 0));
    for (int bad : notes(-1, 2, LEAST, MOST)) {
      refused(x, INDEX, "tune " + bad, () -> x.note(bad, 0));
    }
  }

  private static void street() {
    section = "5 street";
    StreetOrgans x = new StreetOrgans();
    for (int bad : notes(-1, 91, LEAST, MOST)) {
      refused(x, ARGUMENT, "listeners " + bad, () -> x.street(bad, 0));
    }
    for (int bad : notes(-1, 128, LEAST, MOST)) {
      refused(x, ARGUMENT, "permits " + bad, () -> x.street(0, bad));
    }
    int[] listeners = {0, 90, 1, 2, 3, 4, 5, 6};
    int[] permits = {127, 0, 1, 64, 3, 4, 5, 6};
    for (int i = 0; i < 8; i++) {
      due("number", i, x.street(listeners[i], permits[i]));
      due("streets", i + 1, x.count(4));
    }
    for (int i = 0; i < 8; i++) {
      due("listeners", listeners[i], x.told(i, 0));
      due("permits", permits[i], x.told(i, 1));
    }
    refused(x, STATE, "a 9th street", () -> x.street(0, 0));
    refused(x, ARGUMENT, "listeners first", () -> x.street(91, 0));
    refused(x, ARGUMENT, "permits first", () -> x.street(0, 128));
  }

  private static void permit() {
    section = "6 permit";
    StreetOrgans x = new StreetOrgans();
    x.street(10, 5);
    x.street(10, 6);
    due("before", 5, x.permit(0, 127));
    due("before", 127, x.permit(0, 0));
    due("now", 0, x.told(0, 1));
    due("the other", 6, x.told(1, 1));
    due("not today", 0, x.told(0, 2));
    x.permit(0, 1);
    due("today", 1, x.told(0, 2));
    for (int bad : notes(-1, 128, LEAST, MOST)) {
      refused(x, ARGUMENT, "permits " + bad, () -> x.permit(0, bad));
    }
    for (int bad : notes(-1, 2, 8, LEAST, MOST)) {
      refused(x, INDEX, "street " + bad, () -> x.permit(bad, 0));
      refused(x, INDEX, "street " + bad + " first", () -> x.permit(bad, 128));
    }
  }

  private static void setDamp() {
    section = "7 setDamp";
    StreetOrgans x = new StreetOrgans();
    for (int i = 0; i < 7; i++) {
      due("at first", 0, x.setDamp(i, (i + 1) % 6));
    }
    for (int i = 0; i < 7; i++) {
      due("before", (i + 1) % 6, x.setDamp(i, 5));
    }
    for (int bad : notes(-1, 6, LEAST, MOST)) {
      refused(x, ARGUMENT, "damp " + bad, () -> x.setDamp(6, bad));
    }
    for (int bad : notes(-1, 7, LEAST, MOST)) {
      refused(x, INDEX, "weekday " + bad, () -> x.setDamp(bad, 0));
      refused(x, INDEX, "weekday " + bad + " first", () -> x.setDamp(bad, 6));
    }
    due("still", 5, x.setDamp(6, 0));
  }

  private static void play() {
    section = "8 play";
    StreetOrgans x = organ(notes(2, 2, 9), notes(4), notes());
    x.street(90, 1);
    x.street(50, 127);
    due("all listeners, whole sound", 90, x.play(0, 0));
    due("coins", 110, x.count(2));
    due("worn for each note", 2, x.pipe(2, 0));
    due("worn once", 1, x.pipe(9, 0));
    due("not worn", 0, x.pipe(4, 0));
    due("in a tune played", 1, x.pipe(9, 4));
    due("in none played", 0, x.pipe(4, 4));
    // Harms 4, 4, 2: the mean is 3, the sound 57, 90 * 57 / 60 = 85, the half 42.
    due("the half", 42, x.play(0, 0));
    // Harms 8, 8, 4: the mean is 6, the sound 54, 50 * 54 / 60 = 45.
    due("another street has not heard it", 45, x.play(1, 0));
    due("another tune was not heard", 90, x.play(0, 1));
    due("paid", 90 + 42 + 90, x.told(0, 3));
    due("paid", 45, x.told(1, 3));
    refused(x, STATE, "no notes", () -> x.play(0, 2));
    for (int bad : notes(-1, 2, LEAST, MOST)) {
      refused(x, INDEX, "street " + bad, () -> x.play(bad, 0));
      refused(x, INDEX, "street " + bad + " first", () -> x.play(bad, 2));
    }
    for (int bad : notes(-1, 3, LEAST, MOST)) {
      refused(x, INDEX, "tune " + bad, () -> x.play(0, bad));
    }
    x.rest(1);
    refused(x, STATE, "no notes, no permit", () -> x.play(0, 2));
    int coins = x.count(2);
    due("the fine", -10, x.play(0, 0));
    due("coins", coins - 10, x.count(2));
    due("fines", 10, x.count(8));
    due("not played: worn", 6, x.pipe(2, 0));
    due("not played: today", 0, x.pipe(2, 4));
    due("not played: heard", 0, x.told(0, 4));
    due("not played: paid", 222, x.told(0, 3));
    // Harms 12, 12, 6: the mean is 10, the sound 50, 50 * 50 / 60 = 41.
    due("not heard yet on the new day", 41, x.play(1, 0));
  }

  private static void playAtTheEdges() {
    section = "8 play, edges";
    StreetOrgans x = organ(notes(0), notes(5, 5, 5, 5, 5, 5, 5, 5, 5, 5, 5, 5, 5, 5, 5, 5));
    x.street(0, 0);
    x.street(0, 127);
    due("fine", -10, x.play(0, 0));
    due("left", 10, x.count(2));
    x.felt(0);
    due("fine as far as there are some", -6, x.play(0, 0));
    due("left", 0, x.count(2));
    due("no coins, no fine", 0, x.play(0, 0));
    due("fines", 16, x.count(8));
    due("nobody listens", 0, x.play(1, 1));
    due("worn for all", 16, x.pipe(5, 0));
    due("played all the same", 1, x.told(1, 4));
    x.play(1, 1);
    due("at most", 30, x.pipe(5, 0));
    x.play(1, 1);
    due("at most", 30, x.pipe(5, 0));
    playOften(x, 1, 0, 70);
    due("heard seventy times more", 73, x.told(1, 4));
    due("still nothing", 0, x.pays(1, 0));
    // The pay must not come back when the halvings pass the bits of an int.
    StreetOrgans y = organ(notes(1));
    y.street(90, 127);
    for (int i = 0; i < 33; i++) {
      y.play(0, 0);
      y.felt(1);
    }
    due("heard 33 times", 0, y.pays(0, 0));
  }

  private static void tune() {
    section = "9 tune";
    StreetOrgans x = new StreetOrgans();
    due("up", 7, x.tune(3, 7));
    due("down", -2, x.tune(3, -9));
    due("none", -2, x.tune(3, 0));
    due("held above", 60, x.tune(3, 63));
    due("held above", 60, x.tune(3, 120));
    due("from end to end", -60, x.tune(3, -120));
    due("held below", -60, x.tune(3, -1));
    due("back", 60, x.tune(3, 120));
    due("off", 60, x.pipe(3, 1));
    due("others are not", 60, x.count(7));
    due("coins are not asked", 20, x.count(2));
    for (int bad : notes(-121, 121, LEAST, MOST)) {
      refused(x, ARGUMENT, "by " + bad, () -> x.tune(3, bad));
    }
    for (int bad : notes(-1, 12, LEAST, MOST)) {
      refused(x, INDEX, "pipe " + bad, () -> x.tune(bad, 0));
      refused(x, INDEX, "pipe " + bad + " first", () -> x.tune(bad, 121));
    }
  }

  private static void felt() {
    section = "10 felt";
    StreetOrgans x = organ(notes(6, 6, 8));
    x.street(0, 127);
    x.play(0, 0);
    due("old", 2, x.felt(6));
    due("new", 0, x.pipe(6, 0));
    due("other", 1, x.pipe(8, 0));
    due("coins", 16, x.count(2));
    due("in a tune played, all the same", 1, x.pipe(6, 4));
    for (int bad : notes(-1, 12, LEAST, MOST)) {
      refused(x, INDEX, "pipe " + bad, () -> x.felt(bad));
    }
    for (int i = 0; i < 4; i++) {
      due("not worn", 0, x.felt(6));
    }
    due("no coins", 0, x.count(2));
    refused(x, STATE, "no coins", () -> x.felt(8));
    refused(x, INDEX, "pipe first", () -> x.felt(12));
    due("still worn", 1, x.pipe(8, 0));
    StreetOrgans y = organ(notes(0));
    y.street(3, 127);
    playOften(y, 0, 0, 1);
    payFines(y, 2);
    due("3 coins", 3, y.count(2));
    refused(y, STATE, "3 coins", () -> y.felt(0));
    y.rest(1);
    y.play(0, 0);
    due("5 coins", 5, y.count(2));
    due("enough", 2, y.felt(0));
  }

  private static void feltForTheLastCoins() {
    section = "10 felt, 4 coins";
    StreetOrgans x = organ(notes(0));
    x.street(4, 127);
    payFines(x, 2);
    due("paid", 4, x.play(0, 0));
    due("4 coins are enough", 1, x.felt(0));
    due("none left", 0, x.count(2));
  }

  private static StreetOrgans organWithCrickets() {
    StreetOrgans x = organ(notes(0, 0, 0, 0, 0, 7, 7, 7, 7, 7, 11, 11, 11, 11), notes(3));
    x.street(60, 127);
    x.play(0, 0);
    x.play(0, 0);
    x.rest(1);
    x.rest(1);
    return x;
  }

  private static void chase() {
    section = "11 chase";
    StreetOrgans x = organWithCrickets();
    due("crickets", 2, x.count(5));
    int coins = x.count(2);
    due("chased", 2, x.chase());
    due("none left", 0, x.count(5));
    due("pipe 0", 0, x.pipe(0, 2));
    due("pipe 7", 0, x.pipe(7, 2));
    due("harm of the felt again", 20, x.pipe(7, 3));
    due("none to chase", 0, x.chase());
    due("coins are not asked", coins, x.count(2));
    due("they come again", 2, x.rest(1));
  }

  private static void pipe() {
    section = "12 pipe";
    StreetOrgans x = organWithCrickets();
    x.tune(0, -9);
    x.tune(11, -9);
    x.play(0, 1);
    int[][] want = {{0, 10, -9, 1, 60, 0}, {7, 10, 0, 1, 60, 0}, {11, 8, -9, 0, 25, 0},
        {3, 1, 0, 0, 2, 1}, {5, 0, 0, 0, 0, 0}};
    for (int[] row : want) {
      for (int what = 0; what < 5; what++) {
        due("pipe " + row[0] + " " + what, row[what + 1], x.pipe(row[0], what));
      }
    }
    x.tune(11, 51);
    due("harm 42 + 16", 58, x.pipe(11, 3));
    x.tune(11, 2);
    due("harm 44 + 16", 60, x.pipe(11, 3));
    x.tune(11, 1);
    due("harm, at most", 60, x.pipe(11, 3));
    for (int bad : notes(-1, 5, LEAST, MOST)) {
      refused(x, INDEX, "what " + bad, () -> x.pipe(0, bad));
    }
    for (int bad : notes(-1, 12, LEAST, MOST)) {
      refused(x, INDEX, "pipe " + bad, () -> x.pipe(bad, 0));
    }
    x.rest(1);
    due("a new day", 0, x.pipe(3, 4));
    x.play(0, 0);
    x.pin(0, 9);
    due("pinned behind the playing: it was in none that was played", 0, x.pipe(9, 4));
  }

  private static void sound() {
    section = "13 sound";
    StreetOrgans x = organ(notes(1, 1, 2), notes(), notes(11));
    due("whole", 60, x.sound(0));
    due("no notes", 0, x.sound(1));
    x.tune(1, -10);
    x.tune(2, 9);
    due("mean 29 / 3", 51, x.sound(0));
    x.tune(2, 1);
    due("mean 30 / 3", 50, x.sound(0));
    due("another", 60, x.sound(2));
    x.tune(1, -60);
    x.tune(2, 60);
    due("none", 0, x.sound(0));
    x.pin(0, 11);
    due("mean 180 / 4", 15, x.sound(0));
    StreetOrgans y = organWithCrickets();
    // Two pipes with crickets come five times each, pipe 11 with harm 16 four times.
    due("with crickets", 60 - (600 + 64) / 14, y.sound(0));
    for (int bad : notes(-1, 3, 6, LEAST, MOST)) {
      refused(x, INDEX, "tune " + bad, () -> x.sound(bad));
    }
  }

  private static void told() {
    section = "14 told";
    StreetOrgans x = organ(notes(1), notes(2));
    x.street(40, 0b1000010);
    x.street(60, 0b0000001);
    for (int day = 0; day < 15; day++) {
      due("day " + day, day % 7 == 1 || day % 7 == 6 ? 1 : 0, x.told(0, 2));
      due("day " + day, day % 7 == 0 ? 1 : 0, x.told(1, 2));
      x.rest(1);
    }
    due("day 15", 1, x.count(1));
    int paid = x.play(0, 0) + x.play(0, 1) + x.play(0, 0);
    due("listeners", 40, x.told(0, 0));
    due("permits", 66, x.told(0, 1));
    due("paid", paid, x.told(0, 3));
    due("played", 3, x.told(0, 4));
    due("the other paid", 0, x.told(1, 3));
    due("the other heard", 0, x.told(1, 4));
    x.rest(5);
    due("paid in all", paid, x.told(0, 3));
    due("none today", 0, x.told(0, 4));
    due("paid in all", paid + x.play(0, 0), x.told(0, 3));
    for (int bad : notes(-1, 5, LEAST, MOST)) {
      refused(x, INDEX, "what " + bad, () -> x.told(0, bad));
    }
    for (int bad : notes(-1, 2, 8, LEAST, MOST)) {
      refused(x, INDEX, "street " + bad, () -> x.told(bad, 0));
    }
  }

  private static void count() {
    section = "15 count";
    StreetOrgans x = organWithCrickets();
    x.rest(7);
    x.tune(1, -12);
    x.tune(10, 5);
    x.street(1, 0);
    x.play(1, 1);
    x.play(1, 1);
    // 60, then by harms 10, 10, 8 (128 / 14 = 9, the sound 51) the half of 51.
    int[] want = {9, 2, 20 + 60 + 25 - 20, 2, 2, 2, 28, 17, 20};
    for (int what = 0; what < want.length; what++) {
      due("count " + what, want[what], x.count(what));
    }
    for (int bad : notes(-1, 9, LEAST, MOST)) {
      refused(x, INDEX, "what " + bad, () -> x.count(bad));
    }
  }

  private static void rest() {
    section = "16 rest";
    StreetOrgans x = organ(
        notes(0, 0, 0, 0, 0, 0, 0, 0, 0, 0, 1, 1, 1, 1, 1, 1), notes(1, 1, 1), notes(1));
    x.street(90, 127);
    x.setDamp(0, 1);
    x.setDamp(1, 2);
    x.setDamp(6, 5);
    x.play(0, 0);
    x.play(0, 1);
    due("they were played", 0, x.rest(1));
    due("even by the damp of day 0", 1, x.pipe(8, 1));
    due("odd by the damp of day 0", -1, x.pipe(9, 1));
    due("the day", 1, x.count(0));
    due("10 is enough, 9 is not", 1, x.rest(1));
    due("here", 1, x.pipe(0, 2));
    due("not here", 0, x.pipe(1, 2));
    due("damp of day 1", 3, x.pipe(8, 1));
    x.play(0, 2);
    due("played", 0, x.rest(1));
    due("once, in many nights", 1, x.rest(60));
    due("both", 2, x.count(5));
    due("no more", 0, x.rest(1));
    due("the day", 64, x.count(0));
    due("the weekday", 1, x.count(1));
    // Ten weeks' first days, nine second days and nine last days have ended.
    due("damps", Math.min(60, 10 * 1 + 9 * 2 + 9 * 5), x.pipe(8, 1));
    due("held", -60, x.pipe(9, 1));
    x.rest(6);
    due("held above", 60, x.pipe(8, 1));
    due("held below", -60, x.pipe(9, 1));
    for (int bad : notes(0, -1, 61, LEAST, MOST)) {
      refused(x, ARGUMENT, "nights " + bad, () -> x.rest(bad));
    }
  }

  private static void pays() {
    section = "17 pays";
    StreetOrgans x = organ(notes(4), notes(), notes(5, 6));
    x.street(59, 0);
    x.street(90, 127);
    due("without a permit", 59, x.pays(0, 0));
    due("no notes", 0, x.pays(0, 1));
    x.tune(5, 13);
    // The mean harm is 6, the sound 54, 59 * 54 / 60 = 53.
    due("less sound", 53, x.pays(0, 2));
    x.play(1, 2);
    // The harms are 15 and 2, the mean 8, the sound 52, 90 * 52 / 60 = 78.
    due("the half", 39, x.pays(1, 2));
    due("the other street", 51, x.pays(0, 2));
    due("as it plays", x.pays(1, 2), x.play(1, 2));
    x.rest(1);
    due("a new day", 75, x.pays(1, 2));
    for (int bad : notes(-1, 3, LEAST, MOST)) {
      refused(x, INDEX, "tune " + bad, () -> x.pays(0, bad));
    }
    for (int bad : notes(-1, 2, LEAST, MOST)) {
      refused(x, INDEX, "street " + bad, () -> x.pays(bad, 0));
    }
  }

  private static void best() {
    section = "18 best";
    StreetOrgans x = organ(notes(), notes(1), notes(2), notes(3));
    x.street(60, 127);
    x.street(0, 127);
    x.street(30, 0);
    due("of several the smallest", 1, x.best(0));
    due("nobody listens", -1, x.best(1));
    due("whatever permits", 1, x.best(2));
    x.tune(1, 2);
    x.tune(2, 1);
    due("the most", 3, x.best(0));
    x.play(0, 3);
    due("the half is less", 2, x.best(0));
    due("all alike where it was not heard", 1, x.best(2));
    x.tune(1, 60);
    x.tune(2, -120);
    x.tune(3, 60);
    due("no sound", -1, x.best(0));
    StreetOrgans y = new StreetOrgans();
    y.street(1, 127);
    due("no tunes", -1, y.best(0));
    y.pin(y.barrel(), 0);
    due("a single coin", 0, y.best(0));
    y.tune(0, 1);
    due("less than a coin", -1, y.best(0));
    for (int bad : notes(-1, 3, LEAST, MOST)) {
      refused(x, INDEX, "street " + bad, () -> x.best(bad));
    }
  }

  private static void worst() {
    section = "19 worst";
    StreetOrgans x = organ(notes(4, 5, 5, 6), notes(), notes(0, 1, 2, 3));
    due("no harm", -1, x.worst(0));
    due("no notes", -1, x.worst(1));
    x.tune(6, 9);
    x.tune(5, 5);
    due("twice 5 is more than 9", 5, x.worst(0));
    x.tune(4, 9);
    due("of several the smallest", 4, x.worst(0));
    x.tune(5, 1);
    due("the greatest sound", 5, x.worst(0));
    x.tune(0, 2);
    due("no greater: it is cut", -1, x.worst(2));
    x.tune(1, 2);
    due("4 / 4 is more than 2 / 4", 0, x.worst(2));
    x.tune(3, -8);
    due("the last", 3, x.worst(2));
    x.tune(9, 60);
    due("a pipe that is not in it", 3, x.worst(2));
    due("no notes", -1, x.worst(1));
    for (int bad : notes(-1, 3, LEAST, MOST)) {
      refused(x, INDEX, "tune " + bad, () -> x.worst(bad));
    }
  }

  private static void foresee() {
    section = "20 foresee";
    StreetOrgans x = organWithCrickets();
    x.chase();
    x.setDamp(2, 3);
    x.setDamp(3, 4);
    x.tune(1, 2);
    x.tune(0, 59);
    x.play(0, 0);
    long before = x.digest();
    due("they were played", 0, x.foresee(1, 5));
    due("then they were not", 3, x.foresee(2, 5));
    due("worn", x.count(6), x.foresee(60, 6));
    due("off by day 2", 60 + 1 + 10 * 3, x.foresee(1, 7));
    due("off by days 2 and 3", 60 + 5 + 10 * 7, x.foresee(2, 7));
    dueLong("nothing is changed", before, x.digest());
    due("60 nights", 12 * 60, x.foresee(60, 7));
    int[] want = new int[3];
    for (int what = 5; what < 8; what++) {
      want[what - 5] = x.foresee(9, what);
    }
    x.rest(9);
    for (int what = 5; what < 8; what++) {
      due("as it comes", want[what - 5], x.count(what));
    }
    due("with those that are there", 3, x.foresee(1, 5));
    x.felt(0);
    due("a cricket stays under a new felt", 3, x.foresee(60, 5));
    x.chase();
    due("without the chased, with those that come", 2, x.foresee(1, 5));
    for (int bad : notes(0, -1, 61, LEAST, MOST)) {
      refused(x, ARGUMENT, "nights " + bad, () -> x.foresee(bad, 5));
      refused(x, ARGUMENT, "nights " + bad + " first", () -> x.foresee(bad, 4));
    }
    for (int bad : notes(4, 8, 0, -1, LEAST, MOST)) {
      refused(x, INDEX, "what " + bad, () -> x.foresee(1, bad));
    }
  }

  private static void lasts() {
    section = "21 lasts";
    StreetOrgans x = organ(notes(4), notes(), notes(4, 4, 5), notes(6, 7));
    long before = x.digest();
    due("60 less 2 each: 28 behind 16", 16, x.lasts(0));
    due("no notes", 0, x.lasts(1));
    // Each adds 10 to the harms: behind 9 the mean is 30, behind 10 it is 33.
    due("30 is not less than 30", 10, x.lasts(2));
    dueLong("nothing is changed", before, x.digest());
    x.tune(4, 30);
    due("30 is not less than 30", 1, x.lasts(0));
    x.tune(4, 1);
    due("it is already", 0, x.lasts(0));
    x.tune(6, 60);
    // The harms are 60 and 2 each: 62 / 2 is 31.
    due("one holds it at 30", 1, x.lasts(3));
    x.street(90, 127);
    due("it comes so", 30, x.sound(3));
    x.play(0, 3);
    due("less than 30", 29, x.sound(3));
    due("no more", 0, x.lasts(3));
    for (int bad : notes(-1, 4, LEAST, MOST)) {
      refused(x, INDEX, "tune " + bad, () -> x.lasts(bad));
    }
  }

  private static void aFullTown() {
    section = "2, 5 and those that go over all";
    StreetOrgans x = organ(notes(0), notes(1), notes(2), notes(3), notes(4), notes(6, 11));
    for (int i = 0; i < 8; i++) {
      x.street(60 + i, 127);
    }
    for (int i = 0; i < 5; i++) {
      x.tune(i, 60);
    }
    due("best", 5, x.best(7));
    due("worst", -1, x.worst(5));
    due("mean", 10, x.mean());
    due("the last tune in the last street", 67, x.play(7, 5));
    due("heard", 1, x.told(7, 4));
    x.tune(11, 60);
    due("the last pipe", 11, x.worst(5));
    due("a night", 0, x.rest(1));
    due("not heard", 0, x.told(7, 4));
    dueLong("digest", digestByTheFace(x, new int[7],
        new int[][] {{0}, {1}, {2}, {3}, {4}, {6, 11}}), x.digest());
  }

  private static void mean() {
    section = "22 mean";
    StreetOrgans x = new StreetOrgans();
    due("no tunes", 0, x.mean());
    x.barrel();
    due("no notes", 0, x.mean());
    x.pin(0, 1);
    due("whole", 60, x.mean());
    x.barrel();
    x.pin(1, 2);
    x.tune(2, 1);
    due("not cut", 59.5, x.mean());
    x.barrel();
    due("119 / 3", 119.0 / 3.0, x.mean());
  }

  private static long mix(long d, long x) {
    return d * 31 + x;
  }

  private static long digestByTheFace(StreetOrgans x, int[] damp, int[][] tunes) {
    long d = 1097;
    for (int what = 0; what < 9; what++) {
      d = mix(d, x.count(what));
    }
    for (int i = 0; i < 60; i++) {
      d = mix(d, x.pipe(i / 5, i % 5));
    }
    for (int one : damp) {
      d = mix(d, one);
    }
    for (int i = 0; i < tunes.length; i++) {
      d = mix(d, tunes[i].length);
      for (int pipe : tunes[i]) {
        d = mix(d, pipe);
      }
      d = mix(d, x.sound(i));
    }
    for (int i = 0; i < x.count(4); i++) {
      for (int what = 0; what < 5; what++) {
        d = mix(d, x.told(i, what));
      }
      for (int k = 0; k < tunes.length; k++) {
        d = mix(d, x.pays(i, k));
      }
    }
    return d;
  }

  private static void digest() {
    section = "23 digest";
    int[] damp = new int[7];
    dueLong("new", digestByTheFace(new StreetOrgans(), damp, new int[0][]),
        new StreetOrgans().digest());
    int[][] tunes = {{1, 2, 3, 11}, {}, {0, 0, 7, 7, 7, 7, 5}};
    StreetOrgans x = organ(tunes);
    for (int i = 0; i < 7; i++) {
      damp[i] = 5 - i % 6;
      x.setDamp(i, damp[i]);
    }
    x.street(77, 9);
    x.street(13, 64);
    x.street(90, 127);
    dueLong("set up", digestByTheFace(x, damp, tunes), x.digest());
    for (int day = 0; day < 9; day++) {
      for (int i = 0; i < 6; i++) {
        x.play((i + day) % 3, i % 2 * 2);
        dueLong("played", digestByTheFace(x, damp, tunes), x.digest());
      }
      x.rest(day % 3 + 1);
      dueLong("rested", digestByTheFace(x, damp, tunes), x.digest());
    }
    dueLong("it changes nothing", x.digest(), x.digest());
  }

  // README.md's example, line by line: if an answer changes here, it has to change there too.
  private static void theExampleOfTheReadme() {
    section = "README.md";
    StreetOrgans organ = new StreetOrgans();
    int tune = organ.barrel();
    due("the tune", 0, tune);
    due("one note", 1, organ.pin(tune, 4));
    due("two notes", 2, organ.pin(tune, 7));
    int street = organ.street(60, 0b0000001);
    due("the street", 0, street);
    due("the first playing", 60, organ.play(street, tune));
    due("the felt of pipe 4", 1, organ.pipe(4, 0));
    due("the felt of pipe 7", 1, organ.pipe(7, 0));
    due("the sound", 58, organ.sound(tune));
    due("the second playing", 29, organ.play(street, tune));
    due("the worst pipe", 4, organ.worst(tune));
    due("the night's crickets", 0, organ.rest(1));
    due("the fine", -10, organ.play(street, tune));
    due("the coins", 99, organ.count(2));
  }

  public static void main(String[] args) {
    theFace();
    aNewObject();
    barrel();
    pin();
    note();
    street();
    permit();
    setDamp();
    play();
    playAtTheEdges();
    tune();
    felt();
    feltForTheLastCoins();
    chase();
    pipe();
    sound();
    told();
    count();
    rest();
    pays();
    best();
    worst();
    foresee();
    lasts();
    aFullTown();
    mean();
    digest();
    theExampleOfTheReadme();
    System.out.println(checks + " checks, " + wrong + " wrong");
    if (wrong != 0) {
      System.exit(1);
    }
  }
}
