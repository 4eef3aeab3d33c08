import java.io.IOException;
import java.lang.reflect.InvocationTargetException;
import java.lang.reflect.Method;
import java.nio.file.Files;
import java.nio.file.Path;
import java.util.ArrayList;
import java.util.Comparator;
import java.util.List;
import java.util.function.IntSupplier;

/** What the tests of boundaries share: they are found by their annotation, and told with the promise's number. */
class Edges {
  static final int NONE = Checks.NONE;
  static final int BAD = Checks.BAD;
  static final int STATE = Checks.STATE;
  static final int FULL = Checks.FULL;
  static final int NULL = Checks.NULL;
  static final int PLACE = Checks.PLACE;
  static final int KIND = Checks.KIND;
  static final int SIZE = Checks.SIZE;
  static final int STORE = Checks.STORE;
  static final int MIN = Integer.MIN_VALUE;
  static final int MAX = Integer.MAX_VALUE;

  private static final Path DOCUMENT = Path.of("../shared/DOC.md");

  private static String label = "";

  Edges() {}

  /** Runs each annotated method of a class; every promise from first to last is due to have one. */
  static void run(Class<?> tests, int first, int last) throws IOException, IllegalAccessException {
    String document = Files.isReadable(DOCUMENT) ? evenBlanks(Files.readString(DOCUMENT)) : null;
    List<Method> found = new ArrayList<>();
    for (Method m : tests.getDeclaredMethods()) if (m.isAnnotationPresent(Promise.class)) found.add(m);
    found.sort(Comparator.comparingInt(Edges::number).thenComparing(Method::getName));
    boolean[] named = new boolean[33];
    for (Method m : found) {
      named[number(m)] = true;
      runOne(m, document);
    }
    for (int n = first; n <= last; n++) Checks.tell(named[n], tests.getName() + " has no test of promise " + n);
    System.out.println(tests.getName() + ": " + found.size() + " boundaries of promises " + first + " to " + last);
    Checks.end(tests.getName());
  }

  private static int number(Method m) {
    return m.getAnnotation(Promise.class).number();
  }

  private static void runOne(Method m, String document) throws IllegalAccessException {
    String says = m.getAnnotation(Promise.class).says();
    label = "promise " + number(m) + ", " + m.getName() + " (" + says + "): ";
    if (document != null) Checks.tell(document.contains(evenBlanks(says)), label + "the document does not say so");
    try {
      m.invoke(null);
    } catch (InvocationTargetException e) {
      Checks.tell(false, label + "thrown: " + e.getCause());
    }
  }

  private static String evenBlanks(String text) {
    return text.replaceAll("\\s+", " ");
  }

  static void due(String call, int got, int want) {
    Checks.due(label + call, got, want);
  }

  static void tell(boolean right, String otherwise) {
    Checks.tell(right, label + otherwise);
  }

  static void stand(String behind, DrawerCards x, String want) {
    String got = Checks.shelves(x);
    tell(got.equals(want), "behind " + behind + " the cards stand " + got + ", due is " + want);
  }

  static DrawerCards read(String text) {
    return Checks.read(text);
  }

  static void feed(DrawerCards x, String text) {
    Checks.feed(x, text);
  }

  /** Each of the calls is due to answer the same refusal, and all of them to change nothing. */
  static void refused(DrawerCards x, int answer, IntSupplier... calls) {
    String before = picture(x);
    for (int i = 0; i < calls.length; i++) due("refused call " + i, calls[i].getAsInt(), answer);
    String behind = picture(x);
    tell(before.equals(behind), "refusals changed\n  " + before + "\n  into\n  " + behind);
  }

  /** As refused, for an object that is near its 512th call: the counts alone are compared. */
  static void refusedLate(DrawerCards x, int answer, IntSupplier... calls) {
    String before = counts(x);
    for (int i = 0; i < calls.length; i++) due("refused call " + i, calls[i].getAsInt(), answer);
    tell(before.equals(counts(x)), "refusals changed" + before + " into" + counts(x));
  }

  private static String counts(DrawerCards x) {
    StringBuilder text = new StringBuilder();
    for (int what = 0; what <= 7; what++) text.append(' ').append(x.count(what));
    return text.toString();
  }

  /** All that can be seen without a call that changes anything; status() is another matter. */
  static String picture(DrawerCards x) {
    StringBuilder text = new StringBuilder("counts").append(counts(x));
    text.append(" fault ").append(x.fault()).append(" mates ").append(x.mates()).append(" trace");
    for (int i = 0; i <= 6; i++) text.append(' ').append(x.trace(i));
    int cards = x.count(2);
    for (int c = 0; c < cards; c++) {
      text.append(" card ").append(x.kind(c));
      for (int what = 0; what <= 3; what++) text.append(' ').append(x.card(c, what));
    }
    int drawers = x.count(1);
    for (int d = 0; d < drawers; d++) {
      text.append(" drawer");
      for (int what = 0; what <= 2; what++) text.append(' ').append(x.drawer(d, what));
    }
    return text.toString();
  }

  /** A catalogue by which items 0 to 5 of rows can be seen; see itemAt. */
  static DrawerCards withReadableRows() {
    return read("c6,1;r0,1;");
  }

  /** One on a rod is where it is put, so its only start is the drawer that the item tells; -1 if it tells none. */
  static int itemAt(DrawerCards x, int row, int i) {
    int starts = x.fits(0, row, i, 1, 3);
    for (int d = 0; d < 6; d++) if (starts == 1 << d) return d;
    return -1;
  }

  static String items(DrawerCards x, int row, int n) {
    StringBuilder text = new StringBuilder();
    for (int i = 0; i < n; i++) {
      int item = itemAt(x, row, i);
      text.append(item < 0 ? "-" : Integer.toString(item));
    }
    return text.toString();
  }

  /** An int row with these items, from place 0 on. */
  static void rowOf(DrawerCards x, int row, int... items) {
    x.row(row, 2, items.length);
    for (int i = 0; i < items.length; i++) x.set(row, i, items[i]);
  }

  /** Some hundred nights, told off in calls of at most 24. */
  static void pass(DrawerCards x, int nights) {
    for (int left = nights; left > 0; left -= 24) x.nights(Math.min(24, left));
  }
}
