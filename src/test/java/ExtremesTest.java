import java.lang.reflect.InvocationTargetException;
import java.lang.reflect.Method;
import java.util.Arrays;

/**
 * Promises 2 to 32: every call with numbers far out and near the ends, in every mixture, on new objects. None throws;
 * what is refused, or found, changes nothing but status(), and that as promise 32 says.
 */
public final class ExtremesTest {
  /** In the document's order: the first one is promise 2. */
  private static final String[] CALLS = {"row", "set", "copy", "drop", "feed", "catalogue", "fault", "nights", "put",
    "turn", "like", "undo", "card", "drawer", "ahead", "found", "still", "mates", "rods", "tour", "fits", "asleep",
    "drawn", "image", "restore", "kind", "as", "ask", "trace", "count", "status"};
  private static final int[] FEW = {Integer.MIN_VALUE, -1, 0, 1, 8, Integer.MAX_VALUE};
  private static final int[] MANY = {Integer.MIN_VALUE, -1000000, -1, 0, 1, 2, 5, 7, 8, 25, 40, 41, 61, 256, 1000000,
    Integer.MAX_VALUE};
  private static final int MOST_MIXTURES_OF_MANY = 3;

  public static void main(String[] args) throws IllegalAccessException {
    for (int k = 0; k < CALLS.length; k++) {
      Method call = named(CALLS[k]);
      Checks.tell(call != null, "there is no call " + CALLS[k]);
      if (call != null) everyMixture(k + 2, call);
    }
    Checks.end("ExtremesTest");
  }

  private static Method named(String name) {
    for (Method m : DrawerCards.class.getMethods()) {
      if (m.getName().equals(name) && m.getDeclaringClass() == DrawerCards.class) return m;
    }
    return null;
  }

  private static void everyMixture(int promise, Method call) throws IllegalAccessException {
    int n = call.getParameterCount();
    int[] values = n <= MOST_MIXTURES_OF_MANY ? MANY : FEW;
    int mixtures = 1;
    for (int i = 0; i < n; i++) mixtures *= values.length;
    for (int mixture = 0; mixture < mixtures; mixture++) {
      Object[] numbers = new Object[n];
      int rest = mixture;
      for (int i = 0; i < n; i++) {
        numbers[i] = values[rest % values.length];
        rest /= values.length;
      }
      for (int state = 0; state < 3; state++) one(promise, call, numbers, state);
    }
  }

  /** 0 as new; 1 some cards of every kind, some rows, a tape, an image, acts; 2 all as full as it can be. */
  private static DrawerCards inState(int state) {
    if (state == 0) return new DrawerCards();
    String some = "c4,3;f0,2;o0,3;w3,1;r2,0;b2,7;f3,0;";
    String all = "c2,4;f0,7;o1,0;w0,1;r1,2;b0,3;f1,4;o0,5;w1,6;";
    DrawerCards x = Checks.read(state == 1 ? some : all);
    for (int row = 0; row < (state == 1 ? 2 : 8); row++) x.row(row, row % 3, state == 1 ? 8 : 40);
    x.image(0);
    x.nights(state == 1 ? 2 : 24);
    x.ask(1, 0);
    for (int k = 0; k < (state == 1 ? 3 : 60); k++) x.feed('c');
    if (state == 2) x.image(1);
    x.drop(state);
    return x;
  }

  private static void one(int promise, Method call, Object[] numbers, int state) throws IllegalAccessException {
    DrawerCards x = inState(state);
    String label = "promise " + promise + ": " + call.getName() + Arrays.toString(numbers) + " in state " + state;
    int statusAhead = x.status();
    String ahead = Edges.picture(x);
    try {
      int answer = (Integer) call.invoke(x, numbers);
      boolean refused = answer <= Checks.BAD && answer >= Checks.FULL;
      boolean found = answer <= Checks.NULL && answer >= Checks.STORE;
      if (!refused && !found) return;
      Checks.due(label + ": status()", x.status(), found ? -1000010 - answer : statusAhead);
      Checks.tell(ahead.equals(Edges.picture(x)), label + " changed " + ahead + " into " + Edges.picture(x));
    } catch (InvocationTargetException e) {
      Checks.tell(false, label + " has thrown " + e.getCause());
    }
  }
}
