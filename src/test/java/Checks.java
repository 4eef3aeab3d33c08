import java.util.function.IntSupplier;

/** What the tests share: texts onto the tape, answers compared, an exit code. */
final class Checks {
  static final int NONE = -1000000;
  static final int BAD = -1000001;
  static final int STATE = -1000002;
  static final int FULL = -1000003;
  static final int NULL = -1000011;
  static final int PLACE = -1000012;
  static final int KIND = -1000013;
  static final int SIZE = -1000014;
  static final int STORE = -1000015;

  private static int wrong = 0;
  private static int checked = 0;

  private Checks() {}

  static void due(String call, int got, int want) {
    checked++;
    if (got != want) {
      wrong++;
      System.out.println(call + " answered " + got + ", due is " + want);
    }
  }

  /** All of the calls are due to answer the same. */
  static void allDue(String calls, int want, IntSupplier... answers) {
    for (int i = 0; i < answers.length; i++) due(calls + " (" + i + ")", answers[i].getAsInt(), want);
  }

  static void feed(DrawerCards x, String text) {
    for (int i = 0; i < text.length(); i++) x.feed(text.charAt(i));
  }

  /** A new object with the catalogue of a text. */
  static DrawerCards read(String text) {
    DrawerCards x = new DrawerCards();
    feed(x, text);
    int cards = x.catalogue();
    if (cards < 1) {
      wrong++;
      System.out.println("the text " + text + " is refused: " + cards);
    }
    return x;
  }

  /** The drawers with their cards in order, as 012|3||4; by few calls, as an object is good for 512. */
  static String shelves(DrawerCards x) {
    int drawers = x.count(1);
    int cards = x.count(2);
    char[][] at = new char[drawers][cards];
    for (int c = 0; c < cards; c++) {
      int d = x.card(c, 0);
      int p = x.card(c, 1);
      if (d < 0 || d >= drawers || p < 0 || p >= cards || at[d][p] != 0) return "card " + c + " at " + d + ", " + p;
      at[d][p] = (char) ('0' + c);
    }
    StringBuilder text = new StringBuilder();
    for (int d = 0; d < drawers; d++) {
      if (d > 0) text.append('|');
      text.append(new String(at[d]).replaceAll("\0+$", "").replace('\0', '?'));
    }
    return text.toString();
  }

  static void stand(String behind, DrawerCards x, String want) {
    checked++;
    String got = shelves(x);
    if (!got.equals(want)) {
      wrong++;
      System.out.println("behind " + behind + " the cards stand " + got + ", due is " + want);
    }
  }

  static void tell(boolean right, String otherwise) {
    checked++;
    if (!right) {
      wrong++;
      System.out.println(otherwise);
    }
  }

  static void end(String name) {
    System.out.println(name + ": " + checked + " checks, " + wrong + " wrong");
    if (wrong != 0 || checked == 0) System.exit(1);
  }
}
