import java.math.BigInteger;
import java.util.ArrayDeque;
import java.util.ArrayList;
import java.util.Arrays;
import java.util.Collections;
import java.util.Deque;
import java.util.List;

/** The document written down a second time, in lists and with no eye to cost, for ModelTest to compare with. */
final class Model {
  private static final int NONE = -1000000;
  private static final int BAD = -1000001;
  private static final int STATE = -1000002;
  private static final int FULL = -1000003;

  /** A catalogue: drawers as lists of cards, front first. */
  private static final class World {
    List<List<Integer>> drawers = new ArrayList<>();
    List<Character> sorts = new ArrayList<>();
    List<Integer> likes = new ArrayList<>();
    int holds;
    int night;

    World twin() {
      World w = new World();
      for (List<Integer> d : drawers) w.drawers.add(new ArrayList<>(d));
      w.sorts.addAll(sorts);
      w.likes.addAll(likes);
      w.holds = holds;
      w.night = night;
      return w;
    }

    int cards() {
      return sorts.size();
    }

    int in(int card) {
      for (int d = 0; d < drawers.size(); d++) if (drawers.get(d).contains(card)) return d;
      throw new IllegalStateException("card " + card + " is nowhere");
    }

    int place(int card) {
      return drawers.get(in(card)).indexOf(card);
    }

    void last(int card, int drawer) {
      drawers.get(in(card)).remove(Integer.valueOf(card));
      drawers.get(drawer).add(card);
    }

    void behind(int card, int dear) {
      drawers.get(in(card)).remove(Integer.valueOf(card));
      List<Integer> d = drawers.get(in(dear));
      d.add(d.indexOf(dear) + 1, card);
    }

    boolean room(int drawer) {
      return drawers.get(drawer).size() < holds;
    }

    void oneTurn(int card) {
      char sort = sorts.get(card);
      if (sort == 'r') return;
      List<Integer> own = drawers.get(in(card));
      if (sort == 'b') {
        int p = own.indexOf(card);
        if (p > 0) Collections.swap(own, p, p - 1);
        return;
      }
      int dear = likes.get(card);
      if (dear >= cards() || (sort == 'o' && night % 2 != 0)) return;
      int from = in(card);
      int to = in(dear);
      if (from == to) behind(card, dear);
      else if (sort == 'w') {
        if (room(to)) behind(card, dear);
      } else {
        int beside = from + Integer.signum(to - from);
        if (room(beside)) last(card, beside);
      }
    }

    World oneNight(int sleepers) {
      for (int c = 0; c < cards(); c++) if ((sleepers >> c & 1) == 0) oneTurn(c);
      night++;
      return this;
    }

    World on(int n) {
      World w = twin();
      for (int k = 0; k < n; k++) w.oneNight(0);
      return w;
    }

    int mateBits() {
      int bits = 0;
      for (List<Integer> d : drawers) {
        for (int p = 1; p < d.size(); p++) if (likes.get(d.get(p)).equals(d.get(p - 1))) bits |= 1 << d.get(p);
      }
      return bits;
    }

    int figures() {
      StringBuilder s = new StringBuilder("0");
      for (int c = 0; c < cards(); c++) s.append(in(c));
      return Integer.parseInt(s.toString());
    }
  }

  private final int[][] rows = new int[8][];
  private final int[] lanes = new int[8];
  private final List<Integer> tape = new ArrayList<>();
  private World now = null;
  private final Deque<World> past = new ArrayDeque<>();
  private final World[] images = new World[2];
  private final List<Integer> traced = new ArrayList<>();
  private int status = 0;
  private int fault = 0;

  private int find(int number) {
    status = number;
    return -1000010 - number;
  }

  private int fine(int answer) {
    status = 0;
    return answer;
  }

  private boolean noCard(int c) {
    return now == null || c < 0 || c >= now.cards();
  }

  private boolean noDrawer(int d) {
    return now == null || d < 0 || d >= now.drawers.size();
  }

  int row(int row, int lane, int n) {
    if (row < 0 || row > 7 || lane < 0 || lane > 2 || n > 40) return BAD;
    if (n < 0) return find(4);
    rows[row] = new int[n];
    lanes[row] = lane;
    return fine(n);
  }

  int set(int row, int i, int v) {
    if (row < 0 || row > 7) return BAD;
    if (rows[row] == null) return find(1);
    if (i < 0 || i >= rows[row].length) return find(2);
    int bits = 8 << lanes[row];
    int shift = 32 - bits;
    rows[row][i] = v << shift >> shift;
    return fine(rows[row][i]);
  }

  int copy(int a, int i, int b, int j, int n) {
    if (a < 0 || a > 7 || b < 0 || b > 7) return BAD;
    if (rows[a] == null || rows[b] == null) return find(1);
    if (lanes[a] != lanes[b]) return find(5);
    if (i < 0 || j < 0 || n < 0) return find(2);
    if ((long) i + n > rows[a].length || (long) j + n > rows[b].length) return find(2);
    int[] was = rows[a].clone();
    for (int k = 0; k < n; k++) rows[b][j + k] = was[i + k];
    return fine(n);
  }

  int drop(int row) {
    if (row < 0 || row > 7) return BAD;
    if (rows[row] == null) return find(1);
    int n = rows[row].length;
    rows[row] = null;
    return fine(n);
  }

  int feed(int letter) {
    if (letter < 0 || letter > 255) return BAD;
    if (tape.size() == 60) return FULL;
    tape.add(letter);
    return tape.size();
  }

  /** A token is its place, its letter ('0' of a number, '!' of none, '.' of the end) and its value. */
  private List<int[]> tokens() {
    List<int[]> list = new ArrayList<>();
    StringBuilder text = new StringBuilder();
    for (int b : tape) text.append((char) b);
    String s = text.toString();
    for (int at = 0; at < s.length();) {
      int end = at;
      while (end < s.length() && "0123456789".indexOf(s.charAt(end)) >= 0) end++;
      if (end == at) {
        char ch = s.charAt(at);
        list.add(new int[] {at, "abcdefghijklmnopqrstuvwxyz,;".indexOf(ch) >= 0 ? ch : '!', 0});
        at++;
      } else {
        boolean number = end - at <= 2;
        list.add(new int[] {at, number ? '0' : '!', number ? Integer.parseInt(s.substring(at, end)) : 0});
        at = end;
      }
    }
    list.add(new int[] {s.length(), '.', 0});
    return list;
  }

  private int failing(int[] token, int number) {
    fault = number;
    return -1000100 - token[0];
  }

  int catalogue() {
    List<int[]> tokens = tokens();
    tape.clear();
    World w = new World();
    int card = -1;
    for (int t = 0; ; t++) {
      int[] token = tokens.get(t);
      int part = t < 5 ? t : 5 + t % 5;
      if (t > 5 && part == 5 && token[1] == '.') break;
      String may = new String[] {"c", "0", ",", "0", ";", "fowrb", "0", ",", "0", ";"}[part];
      if (may.indexOf(token[1]) < 0) return failing(token, 1);
      int v = token[2];
      if (part == 1) {
        if (v < 2 || v > 6) return failing(token, 2);
        for (int d = 0; d < v; d++) w.drawers.add(new ArrayList<>());
      } else if (part == 3) {
        if (v < 1 || v > 8) return failing(token, 2);
        w.holds = v;
      } else if (part == 5) {
        if (++card == 8) return failing(token, 3);
        w.sorts.add((char) token[1]);
      } else if (part == 6) {
        if (v >= w.drawers.size() || !w.room(v)) return failing(token, 2);
        w.drawers.get(v).add(card);
      } else if (part == 8) {
        if (v > 7 || v == card) return failing(token, 2);
        w.likes.add(v);
      }
    }
    now = w;
    past.clear();
    return w.cards();
  }

  int fault() {
    return fault;
  }

  private void act() {
    past.push(now.twin());
    if (past.size() > 24) past.removeLast();
  }

  int nights(int n) {
    if (now == null) return STATE;
    if (n < 1 || n > 24) return BAD;
    if (now.night + n > 9999) return FULL;
    for (int k = 0; k < n; k++) {
      act();
      now.oneNight(0);
    }
    return now.mateBits();
  }

  int put(int card, int drawer) {
    if (noCard(card) || noDrawer(drawer)) return BAD;
    int from = now.in(card);
    if (from != drawer && !now.room(drawer)) return STATE;
    act();
    now.last(card, drawer);
    return from;
  }

  int turn(int drawer) {
    if (noDrawer(drawer)) return BAD;
    act();
    Collections.reverse(now.drawers.get(drawer));
    return now.drawers.get(drawer).size();
  }

  int like(int card, int other) {
    if (noCard(card) || other < 0 || other > 7 || other == card) return BAD;
    act();
    return now.likes.set(card, other);
  }

  int undo() {
    if (past.isEmpty()) return STATE;
    now = past.pop();
    return past.size();
  }

  int card(int card, int what) {
    if (noCard(card) || what < 0 || what > 3) return BAD;
    int p = now.place(card);
    int ahead = p == 0 ? NONE : now.drawers.get(now.in(card)).get(p - 1);
    return new int[] {now.in(card), p, now.likes.get(card), ahead}[what];
  }

  int drawer(int drawer, int what) {
    if (noDrawer(drawer) || what < 0 || what > 2) return BAD;
    List<Integer> d = now.drawers.get(drawer);
    int bits = 0;
    for (int c : d) bits |= 1 << c;
    return new int[] {d.size(), bits, d.isEmpty() ? NONE : d.get(0)}[what];
  }

  int ahead(int card, int d, int what) {
    if (noCard(card) || d < 0 || d > 60 || what < 0 || what > 1) return BAD;
    World w = now.on(d);
    return what == 0 ? w.in(card) : w.place(card);
  }

  int found(int card, int drawer) {
    if (noCard(card) || noDrawer(drawer)) return BAD;
    World w = now.twin();
    for (int k = 0; k <= 60; k++, w.oneNight(0)) if (w.in(card) == drawer) return k;
    return NONE;
  }

  int still(int what) {
    if (now == null) return STATE;
    if (what < 0 || what > 1) return BAD;
    World w = now.twin();
    for (int k = 0; k <= 200; k++) {
      List<List<Integer>> was = w.twin().drawers;
      if (what == 1 && k > 0 && was.equals(now.drawers)) return k;
      w.oneNight(0);
      if (what == 0 && was.equals(w.drawers)) return k;
    }
    return NONE;
  }

  int mates() {
    return now == null ? STATE : now.mateBits();
  }

  int rods(int card, int drawer, int n, int what) {
    if (noCard(card) || noDrawer(drawer) || n < 1 || n > 20 || what < 0 || what > 1) return BAD;
    for (int size = 0; size <= now.cards(); size++) {
      for (int set = 0; set < 1 << now.cards(); set++) {
        if (Integer.bitCount(set) != size) continue;
        World w = now.twin();
        for (int c = 0; c < w.cards(); c++) if ((set >> c & 1) == 1) w.sorts.set(c, 'r');
        if (w.on(n).in(card) == drawer) return what == 0 ? size : set;
      }
    }
    return NONE;
  }

  int tour(int n, int what) {
    if (now == null) return STATE;
    if (n < 1 || n > 4 || what < 0 || what > 1) return BAD;
    int[] best = {-1, 0};
    tourFrom(now, n, 0, 0, best);
    return best[what];
  }

  private void tourFrom(World w, int n, int seen, int figures, int[] best) {
    if (n == 0) {
      if (Integer.bitCount(seen) > best[0]) {
        best[0] = Integer.bitCount(seen);
        best[1] = figures;
      }
      return;
    }
    for (int d = 0; d < w.drawers.size(); d++) {
      int bits = seen;
      for (int c : w.drawers.get(d)) bits |= 1 << c;
      tourFrom(w.on(1), n - 1, bits, figures * 10 + d, best);
    }
  }

  int fits(int card, int row, int i, int n, int what) {
    if (noCard(card) || row < 0 || row > 7 || n < 1 || n > 12 || what < 0 || what > 3) return BAD;
    if (rows[row] == null) return find(1);
    if (i < 0 || (long) i + n > rows[row].length) return find(2);
    int bits = 0;
    int least = new int[] {1, 0, 1, 0}[what];
    int most = new int[] {5, 7, 8, now.drawers.size() - 1}[what];
    for (int v = least; v <= most; v++) {
      if (what == 1 && v == card) continue;
      World w = now.twin();
      if (what == 0) w.sorts.set(card, "fowrb".charAt(v - 1));
      if (what == 1) w.likes.set(card, v);
      if (what == 2) w.holds = v;
      if (what == 3 && w.in(card) != v) w.last(card, v);
      boolean so = true;
      for (int k = 0; k < n; k++) so &= w.oneNight(0).in(card) == rows[row][i + k];
      if (so) bits |= 1 << v;
    }
    return fine(bits);
  }

  int asleep(int card, int drawer, int c, int what) {
    if (noCard(card) || noDrawer(drawer) || c < 0 || c > 10 || what < 0 || what > 1) return BAD;
    BigInteger above = likely(now, 0, card, drawer, c);
    BigInteger below = BigInteger.TEN.pow(now.cards());
    BigInteger shared = above.gcd(below);
    return (what == 0 ? above : below).divide(shared).intValueExact();
  }

  /** Card by card it sleeps, or has its turn. */
  private static BigInteger likely(World w, int next, int card, int drawer, int c) {
    if (next == w.cards()) return w.in(card) == drawer ? BigInteger.ONE : BigInteger.ZERO;
    World awake = w.twin();
    awake.oneTurn(next);
    BigInteger sleeping = likely(w, next + 1, card, drawer, c).multiply(BigInteger.valueOf(c));
    return sleeping.add(likely(awake, next + 1, card, drawer, c).multiply(BigInteger.valueOf(10 - c)));
  }

  int drawn(int n, int seed, int what) {
    if (now == null) return STATE;
    if (n < 0 || n > 60 || seed < 1 || seed > 999999 || what < 0 || what > 1) return BAD;
    World w = now.twin();
    BigInteger x = BigInteger.valueOf(seed);
    int together = 0;
    for (int k = 0; k < n; k++) {
      x = x.multiply(BigInteger.valueOf(16807)).mod(BigInteger.valueOf(2147483647));
      int card = x.mod(BigInteger.valueOf(w.cards())).intValue();
      int drawer = x.mod(BigInteger.valueOf(w.drawers.size())).intValue();
      if (w.in(card) == drawer || w.room(drawer)) w.last(card, drawer);
      w.oneNight(0);
      together += Integer.bitCount(w.mateBits());
    }
    return what == 0 ? w.figures() : together;
  }

  int image(int k) {
    if (k < 0 || k > 1) return BAD;
    if (now == null) return STATE;
    images[k] = now.twin();
    return 1;
  }

  int restore(int k) {
    if (k < 0 || k > 1) return BAD;
    if (images[k] == null) return STATE;
    now = images[k].twin();
    past.clear();
    return 1;
  }

  int kind(int card) {
    return noCard(card) ? BAD : 1 + "fowrb".indexOf(now.sorts.get(card));
  }

  private static final String[] LINES = {"0", "10", "210", "310", "40", "540"};

  int as(int card, int kind) {
    if (noCard(card) || kind < 0 || kind > 5) return BAD;
    return LINES[kind(card)].indexOf('0' + kind) >= 0 ? fine(card) : find(3);
  }

  int ask(int card, int what) {
    if (noCard(card) || what < 0 || what > 1) return BAD;
    traced.clear();
    return asked(card, what);
  }

  private int asked(int card, int what) {
    int[][] first = {{10, 11, 12, 11, 13, 14}, {20, 21, 24, 22, 23, 23}};
    return body(card, first[what][kind(card)]);
  }

  private int body(int card, int number) {
    if (traced.size() < 16) traced.add(number);
    switch (number) {
      case 10: return now.likes.get(card);
      case 11: {
        int given = body(card, 10);
        return given + asked(card, 1);
      }
      case 12: return 0 - body(card, 11);
      case 13: return body(card, 10) - 100;
      case 14: return body(card, 13) * 2;
      case 20: return card;
      case 21: return body(card, 20) + now.place(card);
      case 22: return body(card, 21) - 1000;
      case 23: {
        int given = body(card, 20);
        return given - asked(card, 0);
      }
      default: return body(card, 21) * 2;
    }
  }

  int trace(int i) {
    return i < 0 || i >= traced.size() ? NONE : traced.get(i);
  }

  int count(int what) {
    if (what < 0 || what > 7) return BAD;
    if (what == 0) return (int) Arrays.stream(rows).filter(r -> r != null).count();
    if (what == 5) return past.size();
    if (what == 6) return tape.size();
    if (now == null) return 0;
    int[] told = {0, now.drawers.size(), now.cards(), now.night, now.holds, 0, 0, now.figures()};
    return told[what];
  }

  int status() {
    return status;
  }
}
