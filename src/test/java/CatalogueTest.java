/** Promises 6 to 8, and what a catalogue that is read looks like. */
public final class CatalogueTest {
  public static void main(String[] args) {
    tape();
    faults();
    faultsOfTheNinth();
    goodTexts();
    whatStays();
    Checks.end("CatalogueTest");
  }

  private static void tape() {
    DrawerCards x = new DrawerCards();
    Checks.due("feed(-1)", x.feed(-1), Checks.BAD);
    Checks.due("feed(256)", x.feed(256), Checks.BAD);
    for (int n = 1; n <= 60; n++) Checks.due("byte " + n, x.feed(n % 2 == 0 ? 0 : 255), n);
    Checks.due("byte 61", x.feed(99), Checks.FULL);
    Checks.due("BAD is ahead of FULL", x.feed(256), Checks.BAD);
    Checks.due("count(6)", x.count(6), 60);
    Checks.due("catalogue", x.catalogue(), -1000100);
    Checks.due("empty then", x.count(6), 0);
    Checks.due("feed again", x.feed(99), 1);
  }

  private static void fault(String text, int number, int place) {
    DrawerCards x = new DrawerCards();
    Checks.feed(x, text);
    Checks.due("catalogue of " + text, x.catalogue(), -1000100 - place);
    Checks.due("fault of " + text, x.fault(), number);
    Checks.due("tape behind " + text, x.count(6), 0);
    Checks.due("no catalogue by " + text, x.count(2), 0);
  }

  private static void faults() {
    fault("", 1, 0);
    fault("C2,1;f0,1;", 1, 0);
    fault("d2,1;f0,1;", 1, 0);
    fault("2", 1, 0);
    fault(" c2,1;f0,1;", 1, 0);
    fault("c", 1, 1);
    fault("cc", 1, 1);
    fault("c,", 1, 1);
    fault("c1,1;f0,1;", 2, 1);
    fault("c7,1;f0,1;", 2, 1);
    fault("c99", 2, 1);
    fault("c002,1;f0,1;", 1, 1);
    fault("c123456", 1, 1);
    fault("c2", 1, 2);
    fault("c2;1;f0,1;", 1, 2);
    fault("c2a", 1, 2);
    fault("c2 ,1;", 1, 2);
    fault("c2,", 1, 3);
    fault("c2,;", 1, 3);
    fault("c2,0;f0,1;", 2, 3);
    fault("c2,9;f0,1;", 2, 3);
    fault("c2,10;f0,1;", 2, 3);
    fault("c2,111;f0,1;", 1, 3);
    fault("c2,1", 1, 4);
    fault("c2,1,", 1, 4);
    fault("c02,08", 1, 6);
    fault("c2,1;", 1, 5);
    fault("c2,1;x0,1;", 1, 5);
    fault("c2,1;c0,1;", 1, 5);
    fault("c2,1;0,1;", 1, 5);
    fault("c2,1;;", 1, 5);
    fault("c2,1;f", 1, 6);
    fault("c2,1;ff", 1, 6);
    fault("c2,1;f2,1;", 2, 6);
    fault("c6,1;f6,1;", 2, 6);
    fault("c2,1;f000,1;", 1, 6);
    fault("c2,1;f0", 1, 7);
    fault("c2,1;f0;", 1, 7);
    fault("c2,1;f0,", 1, 8);
    fault("c2,1;f0,f", 1, 8);
    fault("c2,1;f0,0;", 2, 8);
    fault("c2,1;f0,00;", 2, 8);
    fault("c2,1;f0,8;", 2, 8);
    fault("c2,1;f0,1", 1, 9);
    fault("c2,1;f0,1,", 1, 9);
    fault("c2,1;f0,1f", 1, 9);
    fault("c2,1;f0,1;f0,0;", 2, 11);
    fault("c2,2;f0,1;f0,0;f0,0;", 2, 16);
    fault("c2,1;f0,1;f1,1;", 2, 13);
    fault("c2,1;f0,1;f1,0;\n", 1, 15);
    fault("c2,1;f0,1;f1,0;.", 1, 15);
    fault("c2,1;f0,1;f1,0;f0,1;", 2, 16);
  }

  private static final String EIGHT = "c2,8;f0,1;f0,0;f0,1;f0,1;f0,1;f0,1;f0,1;f0,1;";

  private static void faultsOfTheNinth() {
    fault(EIGHT + "f1,0;", 3, 45);
    fault(EIGHT + "b", 3, 45);
    fault(EIGHT + "x1,0;", 1, 45);
    fault(EIGHT + "1", 1, 45);
    Checks.due("eight", Checks.read(EIGHT).count(2), 8);
  }

  private static void goodTexts() {
    DrawerCards x = Checks.read("c04,08;f00,07;o3,0;w03,01;r0,0;b3,7;");
    Checks.due("cards", x.count(2), 5);
    Checks.due("drawers", x.count(1), 4);
    Checks.due("holds", x.count(4), 8);
    Checks.due("night", x.count(3), 0);
    Checks.due("figures", x.count(7), 3303);
    Checks.stand("reading", x, "03|||124");
    int[] liked = {7, 0, 1, 0, 7};
    for (int c = 0; c < 5; c++) {
      Checks.due("kind " + c, x.kind(c), c + 1);
      Checks.due("liked " + c, x.card(c, 2), liked[c]);
    }
    Checks.due("no fault yet", x.fault(), 0);
    Checks.due("two and one", Checks.read("c2,1;f1,1;").count(7), 1);
    Checks.due("all full", Checks.read("c2,1;f1,1;r0,0;").count(7), 10);
  }

  private static void whatStays() {
    DrawerCards x = Checks.read("c3,2;f0,1;f2,0;");
    x.nights(2);
    Checks.feed(x, "c4,4;f3,1;f0,1;");
    Checks.due("a fault", x.catalogue(), -1000113);
    Checks.due("number", x.fault(), 2);
    Checks.due("drawers stay", x.count(1), 3);
    Checks.due("cards stay", x.count(2), 2);
    Checks.due("night stays", x.count(3), 2);
    Checks.due("acts stay", x.count(5), 2);
    Checks.feed(x, "c6,4;b5,1;");
    Checks.due("another", x.catalogue(), 1);
    Checks.due("the latest fault yet", x.fault(), 2);
    Checks.due("night 0", x.count(3), 0);
    Checks.due("no act", x.count(5), 0);
    Checks.due("undo", x.undo(), Checks.STATE);
    Checks.due("holds", x.count(4), 4);
    Checks.due("card 1 is gone", x.card(1, 0), Checks.BAD);
    Checks.due("drawer 5", x.drawer(5, 1), 1);
  }
}
