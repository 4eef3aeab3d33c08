/** Promises 1 to 5 and 32, and count(0). */
public final class RowsTest {
  public static void main(String[] args) {
    newObject();
    rows();
    items();
    copies();
    drops();
    statusOfLatest();
    Checks.end("RowsTest");
  }

  private static void newObject() {
    DrawerCards x = new DrawerCards();
    for (int what = 0; what <= 7; what++) Checks.due("new: count(" + what + ")", x.count(what), 0);
    Checks.due("new: fault", x.fault(), 0);
    Checks.due("new: status", x.status(), 0);
    Checks.due("new: trace", x.trace(0), Checks.NONE);
    Checks.due("new: mates", x.mates(), Checks.STATE);
    for (int row = 0; row < 8; row++) Checks.due("new: drop(" + row + ")", x.drop(row), Checks.NULL);
  }

  private static void rows() {
    DrawerCards x = new DrawerCards();
    Checks.due("row 0", x.row(0, 0, 0), 0);
    Checks.due("row 7", x.row(7, 2, 40), 40);
    Checks.due("count(0)", x.count(0), 2);
    Checks.allDue("bad rows", Checks.BAD,
        () -> x.row(-1, 0, 1), () -> x.row(8, 0, 1), () -> x.row(0, -1, 1), () -> x.row(0, 3, 1),
        () -> x.row(0, 0, 41), () -> x.row(8, 0, -1), () -> x.row(0, 3, -1),
        () -> x.row(0, 0, Integer.MAX_VALUE), () -> x.row(Integer.MIN_VALUE, 0, 1));
    Checks.allDue("sizes", Checks.SIZE, () -> x.row(7, 0, -1), () -> x.row(3, 2, Integer.MIN_VALUE));
    Checks.due("what is found changes nothing", x.drop(7), 40);
    Checks.due("a row of none is there", x.drop(0), 0);
    x.row(1, 2, 3);
    x.set(1, 2, 77);
    x.row(1, 2, 3);
    Checks.due("a new row begins with 0", x.copy(1, 2, 1, 0, 1), 1);
    Checks.due("in place of what is there: one row", x.count(0), 1);
    x.row(1, 0, 2);
    Checks.due("shorter now", x.set(1, 2, 1), Checks.PLACE);
    Checks.due("bytes now", x.set(1, 0, 255), -1);
  }

  private static void items() {
    DrawerCards x = new DrawerCards();
    x.row(0, 0, 3);
    x.row(1, 1, 3);
    x.row(2, 2, 3);
    Checks.due("byte 127", x.set(0, 0, 127), 127);
    Checks.due("byte 128", x.set(0, 0, 128), -128);
    Checks.due("byte 256", x.set(0, 2, 256), 0);
    Checks.due("short 32767", x.set(1, 0, 32767), 32767);
    Checks.due("short 32768", x.set(1, 0, 32768), -32768);
    Checks.due("short 65536", x.set(1, 2, 65537), 1);
    Checks.due("int", x.set(2, 2, Integer.MIN_VALUE), Integer.MIN_VALUE);
    Checks.allDue("bad", Checks.BAD, () -> x.set(-1, 0, 0), () -> x.set(8, 0, 0), () -> x.set(8, -1, 0));
    Checks.allDue("missing", Checks.NULL, () -> x.set(3, 0, 0), () -> x.set(7, -1, 0));
    Checks.allDue("places", Checks.PLACE, () -> x.set(0, -1, 0), () -> x.set(0, 3, 0),
        () -> x.set(0, Integer.MAX_VALUE, 0), () -> x.set(0, Integer.MIN_VALUE, 0));
  }

  /** Items are told by how fits() takes them: a card on a rod stays in drawer 0. */
  private static int item(DrawerCards x, int row, int i) {
    Checks.feed(x, "c2,1;r0,1;");
    x.catalogue();
    return x.fits(0, row, i, 1, 0) == 0 ? 1 : 0;
  }

  private static String items(DrawerCards x, int row, int n) {
    StringBuilder text = new StringBuilder();
    for (int i = 0; i < n; i++) text.append(item(x, row, i));
    return text.toString();
  }

  private static void copies() {
    DrawerCards x = new DrawerCards();
    x.row(0, 2, 5);
    x.row(1, 2, 3);
    x.row(2, 1, 5);
    x.set(0, 0, 1);
    x.set(0, 3, 1);
    Checks.due("copy", x.copy(0, 2, 1, 1, 2), 2);
    Checks.tell(items(x, 1, 3).equals("001"), "items 2, 3 come to 1, 2");
    Checks.due("copy on itself, to the right", x.copy(0, 0, 0, 1, 4), 4);
    Checks.tell(items(x, 0, 5).equals("11001"), "as they were ahead: to the right");
    Checks.due("copy on itself, to the left", x.copy(0, 1, 0, 0, 4), 4);
    Checks.tell(items(x, 0, 5).equals("10011"), "as they were ahead: to the left");
    Checks.due("none at the ends", x.copy(0, 5, 1, 3, 0), 0);
    Checks.allDue("bad", Checks.BAD, () -> x.copy(-1, 0, 0, 0, 0), () -> x.copy(0, 0, 8, 0, 0),
        () -> x.copy(8, 0, 3, 0, 0), () -> x.copy(3, 0, -1, -1, 0));
    Checks.allDue("missing", Checks.NULL, () -> x.copy(3, 0, 0, 0, 1), () -> x.copy(2, -1, 3, 0, 1));
    Checks.allDue("two lanes", Checks.STORE, () -> x.copy(0, 0, 2, 0, 1), () -> x.copy(2, -1, 0, 0, 99),
        () -> x.copy(2, 0, 0, 0, 0));
    Checks.allDue("places", Checks.PLACE, () -> x.copy(0, -1, 1, 0, 1), () -> x.copy(0, 0, 1, -1, 1),
        () -> x.copy(0, 0, 1, 0, -1), () -> x.copy(0, 0, 1, 0, 4), () -> x.copy(0, 4, 1, 0, 2),
        () -> x.copy(0, 6, 1, 0, 0), () -> x.copy(0, 0, 1, 4, 0), () -> x.copy(1, 1, 0, 0, 3),
        () -> x.copy(0, 1, 1, 0, Integer.MAX_VALUE), () -> x.copy(0, Integer.MAX_VALUE, 1, 0, 1),
        () -> x.copy(0, 0, 1, Integer.MAX_VALUE, Integer.MAX_VALUE));
    Checks.tell(items(x, 1, 3).equals("001"), "what is found changes nothing");
  }

  private static void drops() {
    DrawerCards x = new DrawerCards();
    x.row(4, 1, 9);
    Checks.due("drop", x.drop(4), 9);
    Checks.due("count(0)", x.count(0), 0);
    Checks.due("set", x.set(4, 0, 0), Checks.NULL);
    Checks.allDue("missing", Checks.NULL, () -> x.drop(4), () -> x.drop(5));
    Checks.allDue("bad", Checks.BAD, () -> x.drop(-1), () -> x.drop(8));
  }

  private static void statusOfLatest() {
    DrawerCards x = Checks.read("c2,1;f0,1;");
    Checks.due("none yet", x.status(), 0);
    x.row(0, 0, -1);
    Checks.due("SIZE", x.status(), 4);
    x.row(9, 0, -1);
    x.set(9, 0, 0);
    x.copy(9, 0, 0, 0, 0);
    x.drop(9);
    x.as(5, 0);
    x.fits(0, 0, 0, 0, 0);
    Checks.due("BAD leaves it", x.status(), 4);
    x.undo();
    x.feed(99);
    x.nights(1);
    x.ask(0, 0);
    x.catalogue();
    Checks.due("other calls leave it", x.status(), 4);
    x.row(0, 0, 1);
    Checks.due("row", x.status(), 0);
    x.set(0, 1, 0);
    Checks.due("PLACE", x.status(), 2);
    x.set(0, 0, 0);
    Checks.due("set", x.status(), 0);
    x.drop(1);
    Checks.due("NULL", x.status(), 1);
    x.copy(0, 0, 0, 0, 1);
    Checks.due("copy", x.status(), 0);
    x.row(1, 1, 1);
    x.copy(0, 0, 1, 0, 1);
    Checks.due("STORE", x.status(), 5);
    x.drop(1);
    Checks.due("drop", x.status(), 0);
    x.as(0, 4);
    Checks.due("KIND", x.status(), 3);
    x.as(0, 1);
    Checks.due("as", x.status(), 0);
    x.fits(0, 1, 0, 1, 0);
    Checks.due("fits: NULL", x.status(), 1);
    x.fits(0, 0, 0, 1, 0);
    Checks.due("fits", x.status(), 0);
    x.fits(0, 0, 0, 2, 0);
    Checks.due("fits: PLACE", x.status(), 2);
  }
}
