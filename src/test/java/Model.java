import java.math.BigInteger;
import java.util.ArrayList;
import java.util.Arrays;
import java.util.List;

/**
 * The document once more, written for plainness and by other ways than the class: fractions of
 * BigInteger and elimination for BENDS, every pair of neighbours for NEAREST, the matrix of Schur and
 * Cohn for STEADY, all POKES and all FRAMES kept as they came.
 */
final class Model {
  static final int BAD = -1, NOT = -2, FULL = -3, NONE = -4, NULL = -11, CAST = -12, INDEX = -13, SIZE = -14;
  private static final int FAR = 10000;

  private static final class Poke {
    final int by;
    final int[] changes;

    Poke(int by, int[] changes) {
      this.by = by;
      this.changes = changes;
    }
  }

  private static final class Frame {
    final int found, behind, lost, sum, stay;
    final boolean good;

    Frame(int found, int behind, int lost, int sum, boolean good, int stay) {
      this.found = found;
      this.behind = behind;
      this.lost = lost;
      this.sum = sum;
      this.good = good;
      this.stay = stay;
    }
  }

  private int spots, parts, tip, state;
  /** Counts how often the STATE was entered anew, so that FRAMES of one stay can be told from others. */
  private int stay;
  private int[][] lights, table;
  private int[] rests, units;
  private boolean[] dead;
  private List<List<Poke>> pokes;
  private List<Frame> frames;
  private int dark = 20, least = 50, few = 1, gain = 50, limit = 40, near = 30, step = 4;
  private final int[][] loops = {{1}, {1}};
  private final int[][] cells = new int[3][32];
  private final int[] winds = new int[3];
  private final Object[] sheets = new Object[4];

  Model() {
    mirror(4, 2);
  }

  private static boolean in(int v, int low, int high) {
    return low <= v && v <= high;
  }

  private boolean isSpot(int s) {
    return in(s, 0, spots - 1);
  }

  private boolean isPart(int p) {
    return in(p, 0, parts - 1);
  }

  int mirror(int s, int a) {
    if (!in(s, 1, 8) || !in(a, 1, 5)) return BAD;
    spots = s;
    parts = a;
    tip = 0;
    go(0);
    lights = new int[s][16];
    table = new int[s][a];
    rests = new int[s];
    Arrays.fill(rests, 1500);
    units = new int[a];
    dead = new boolean[a];
    pokes = new ArrayList<>();
    for (int p = 0; p < a; p++) pokes.add(new ArrayList<>());
    frames = new ArrayList<>();
    return 1;
  }

  private void go(int next) {
    state = next;
    stay++;
  }

  int light(int spot, int i, int v) {
    if (!isSpot(spot) || !in(i, 0, 15) || !in(v, 0, 255)) return BAD;
    int was = lights[spot][i];
    lights[spot][i] = v;
    return was;
  }

  private static int length(Object row) {
    return java.lang.reflect.Array.getLength(row);
  }

  private static int laneOf(Object row) {
    return row instanceof byte[] ? 0 : row instanceof short[] ? 1 : 2;
  }

  private static int at(Object row, int i) {
    return ((Number) java.lang.reflect.Array.get(row, i)).intValue();
  }

  private int refuse(int sheet, int lane, int from, int n) {
    if (!in(sheet, 0, 3) || !in(lane, 0, 2)) return BAD;
    Object row = sheets[sheet];
    if (row == null) return NULL;
    if (laneOf(row) != lane) return CAST;
    return from < 0 || (long) from + n > length(row) ? INDEX : 0;
  }

  private int[] take(int sheet, int from, int n) {
    int[] taken = new int[n];
    for (int i = 0; i < n; i++) taken[i] = at(sheets[sheet], from + i);
    return taken;
  }

  private static boolean all(int[] row, int low, int high) {
    for (int v : row) if (!in(v, low, high)) return false;
    return true;
  }

  int board(int spot, int sheet, int lane, int from) {
    if (!isSpot(spot)) return BAD;
    int no = refuse(sheet, lane, from, 16);
    if (no != 0) return no;
    int[] row = take(sheet, from, 16);
    if (lane == 0) for (int i = 0; i < 16; i++) row[i] = row[i] < 0 ? row[i] + 256 : row[i];
    if (!all(row, 0, 255)) return NOT;
    lights[spot] = row;
    return 1;
  }

  int set(int what, int v) {
    int was;
    switch (what) {
      case 0: if (!in(v, 0, 255)) return BAD - FAR; was = dark; dark = v; return was;
      case 1: if (!in(v, 1, 4080)) return BAD - FAR; was = least; least = v; return was;
      case 2: if (!in(v, 0, 8)) return BAD - FAR; was = few; few = v; return was;
      case 3: if (!in(v, 0, 200)) return BAD - FAR; was = gain; gain = v; return was;
      case 4: if (!in(v, 1, 60)) return BAD - FAR; was = limit; limit = v; return was;
      case 5: if (!in(v, 0, 120)) return BAD - FAR; was = near; near = v; return was;
      case 6: if (!in(v, 1, 8)) return BAD - FAR; was = step; step = v; return was;
      default: return BAD - FAR;
    }
  }

  int rest(int spot, int v) {
    if (!isSpot(spot) || !in(v, 0, 3000)) return BAD;
    int was = rests[spot];
    rests[spot] = v;
    return was;
  }

  private int lightOf(int spot) {
    int sum = 0;
    for (int v : lights[spot]) sum += v > dark ? v - dark : 0;
    return sum;
  }

  private boolean isLost(int spot) {
    return lightOf(spot) < least;
  }

  private int middle(int spot) {
    int sum = 0;
    for (int y = 0; y < 4; y++) {
      for (int x = 0; x < 4; x++) {
        int v = lights[spot][4 * y + x];
        if (v > dark) sum += (spot % 2 == 1 ? y : x) * (v - dark);
      }
    }
    return 1000 * sum / lightOf(spot);
  }

  int spot(int spot, int what) {
    if (!isSpot(spot) || !in(what, 0, 3)) return BAD - FAR;
    if (what == 0) return lightOf(spot);
    if (what == 1) return isLost(spot) ? 1 : 0;
    if (what == 2) return isLost(spot) ? NONE : middle(spot);
    return isLost(spot) ? NOT - FAR : middle(spot) - rests[spot];
  }

  int table(int spot, int part, int v) {
    if (!isSpot(spot) || !isPart(part) || !in(v, -9, 9)) return BAD - FAR;
    int was = table[spot][part];
    table[spot][part] = v;
    pokes.get(part).clear();
    return was;
  }

  int poke(int part, int by, int sheet, int lane, int from) {
    if (!isPart(part) || !in(by, 1, 99)) return BAD;
    int no = refuse(sheet, lane, from, spots);
    if (no != 0) return no;
    int[] row = take(sheet, from, spots);
    if (!all(row, -999, 999)) return NOT;
    List<Poke> of = pokes.get(part);
    if (of.size() == 9) return FULL;
    of.add(new Poke(by, row));
    for (int s = 0; s < spots; s++) {
      int sum = 0;
      int bys = 0;
      for (Poke p : of) {
        sum += p.changes[s];
        bys += p.by;
      }
      table[s][part] = Math.max(-9, Math.min(9, sum / bys));
    }
    return of.size();
  }

  int told(int spot, int part, int what) {
    if (!isSpot(spot) || !isPart(part) || !in(what, 0, 1)) return BAD - FAR;
    if (what == 0) return table[spot][part];
    if (pokes.get(part).isEmpty()) return NONE - FAR;
    int most = Integer.MIN_VALUE;
    int fewest = Integer.MAX_VALUE;
    for (Poke p : pokes.get(part)) {
      most = Math.max(most, p.changes[spot] / p.by);
      fewest = Math.min(fewest, p.changes[spot] / p.by);
    }
    return most - fewest;
  }

  int dead(int part, boolean is) {
    if (!isPart(part) || part == 0) return BAD;
    int was = dead[part] ? 1 : 0;
    dead[part] = is;
    return was;
  }

  /** A fraction in lowest terms, below above 0. */
  private static final class Ratio {
    static final Ratio ZERO = new Ratio(BigInteger.ZERO, BigInteger.ONE);
    final BigInteger above, below;

    Ratio(BigInteger a, BigInteger b) {
      BigInteger g = a.gcd(b);
      if (b.signum() < 0) g = g.negate();
      above = a.divide(g);
      below = b.divide(g);
    }

    static Ratio of(long v) {
      return new Ratio(BigInteger.valueOf(v), BigInteger.ONE);
    }

    Ratio plus(Ratio o) {
      return new Ratio(above.multiply(o.below).add(o.above.multiply(below)), below.multiply(o.below));
    }

    Ratio minus(Ratio o) {
      return plus(new Ratio(o.above.negate(), o.below));
    }

    Ratio times(Ratio o) {
      return new Ratio(above.multiply(o.above), below.multiply(o.below));
    }

    Ratio by(Ratio o) {
      return new Ratio(above.multiply(o.below), below.multiply(o.above));
    }

    boolean isZero() {
      return above.signum() == 0;
    }
  }

  private List<Integer> seeing() {
    List<Integer> told = new ArrayList<>();
    for (int s = 0; s < spots; s++) if (!isLost(s)) told.add(s);
    return told;
  }

  private Ratio[] column(int part, List<Integer> told) {
    Ratio[] column = new Ratio[told.size()];
    for (int i = 0; i < column.length; i++) {
      int sum = table[told.get(i)][part];
      for (int q = part + 1; q < parts && dead[q]; q++) sum += table[told.get(i)][q];
      column[i] = Ratio.of(sum);
    }
    return column;
  }

  /** Takes from a copy of each COLUMN what those ahead of it explain; what is left over is SEEN. */
  private List<Integer> seenParts() {
    List<Integer> told = seeing();
    List<Integer> seen = new ArrayList<>();
    List<Ratio[]> basis = new ArrayList<>();
    List<Integer> pivots = new ArrayList<>();
    for (int p = 0; p < parts; p++) {
      if (dead[p]) continue;
      Ratio[] c = column(p, told);
      for (int b = 0; b < basis.size(); b++) {
        int at = pivots.get(b);
        Ratio f = c[at].by(basis.get(b)[at]);
        for (int i = 0; i < c.length; i++) c[i] = c[i].minus(f.times(basis.get(b)[i]));
      }
      for (int i = 0; i < c.length; i++) {
        if (!c[i].isZero()) {
          basis.add(c);
          pivots.add(i);
          seen.add(p);
          break;
        }
      }
    }
    return seen;
  }

  int seen() {
    int bits = 0;
    for (int p : seenParts()) bits += 1 << p;
    return bits;
  }

  private Ratio[] bends() {
    List<Integer> told = seeing();
    List<Integer> seen = seenParts();
    int k = seen.size();
    Ratio[][] m = new Ratio[k][k + 1];
    for (int i = 0; i < k; i++) {
      Ratio[] c = column(seen.get(i), told);
      for (int j = 0; j <= k; j++) {
        Ratio sum = Ratio.ZERO;
        Ratio[] d = j < k ? column(seen.get(j), told) : null;
        for (int s = 0; s < told.size(); s++) {
          sum = sum.plus(c[s].times(d == null ? Ratio.of(spot(told.get(s), 3)) : d[s]));
        }
        m[i][j] = sum;
      }
    }
    for (int i = 0; i < k; i++) {
      for (int r = 0; r < k; r++) {
        if (r == i) continue;
        Ratio f = m[r][i].by(m[i][i]);
        for (int j = 0; j <= k; j++) m[r][j] = m[r][j].minus(f.times(m[i][j]));
      }
    }
    Ratio[] bends = new Ratio[parts];
    Arrays.fill(bends, Ratio.ZERO);
    for (int i = 0; i < k; i++) bends[seen.get(i)] = m[i][k].by(m[i][i]);
    for (int p = 1; p < parts; p++) if (dead[p]) bends[p] = bends[p - 1];
    return bends;
  }

  long bend(int part, int what) {
    if (!isPart(part) || !in(what, 0, 1)) return -1L - (1L << 62);
    Ratio bend = bends()[part];
    return (what == 0 ? bend.above : bend.below).longValueExact();
  }

  private int[] wholes() {
    Ratio[] bends = bends();
    int[] wholes = new int[parts];
    for (int p = 0; p < parts; p++) {
      // the whole part of (2 |a| + b) / 2 b
      BigInteger two = BigInteger.valueOf(2);
      BigInteger size = bends[p].above.abs().multiply(two).add(bends[p].below).divide(bends[p].below.multiply(two));
      int held = size.min(BigInteger.valueOf(9999)).intValue();
      wholes[p] = bends[p].above.signum() < 0 ? -held : held;
    }
    return wholes;
  }

  int whole(int part) {
    return isPart(part) ? wholes()[part] : BAD - FAR;
  }

  /** For each PART from the last on, and each of its units, looks at all units of the next one. */
  private int[] nearestTo(int[] wish) {
    long[][] cost = new long[parts][2 * limit + 1];
    int[][] next = new int[parts][2 * limit + 1];
    for (int p = parts - 1; p >= 0; p--) {
      for (int u = -limit; u <= limit; u++) {
        long best = p == parts - 1 ? 0 : Long.MAX_VALUE;
        for (int w = -limit; w <= limit && p < parts - 1; w++) {
          boolean allowed = dead[p + 1] ? w == u : Math.abs(w - u) <= near;
          if (allowed && cost[p + 1][w + limit] < best) {
            best = cost[p + 1][w + limit];
            next[p][u + limit] = w;
          }
        }
        cost[p][u + limit] = best + (long) (u - wish[p]) * (u - wish[p]);
      }
    }
    int[] row = new int[parts];
    row[0] = -limit;
    for (int u = -limit; u <= limit; u++) if (cost[0][u + limit] < cost[0][row[0] + limit]) row[0] = u;
    for (int p = 1; p < parts; p++) row[p] = next[p - 1][row[p - 1] + limit];
    return row;
  }

  int nearest(int part) {
    return isPart(part) ? nearestTo(wholes())[part] : BAD - FAR;
  }

  long off() {
    int[] wholes = wholes();
    int[] row = nearestTo(wholes);
    long sum = 0;
    for (int p = 0; p < parts; p++) sum += (long) (row[p] - wholes[p]) * (row[p] - wholes[p]);
    return sum;
  }

  int start() {
    if (state != 0) return NOT;
    go(1);
    return 1;
  }

  int stop() {
    int was = state;
    go(0);
    return was;
  }

  /** How many FRAMES of this stay there were, this one with them; if good, only the latest in one row. */
  private int counted(boolean goodOnly, boolean good) {
    if (goodOnly && !good) return 0;
    int n = 1;
    for (int i = frames.size() - 1; i >= 0 && frames.get(i).stay == stay; i--) {
      if (goodOnly && !frames.get(i).good) break;
      n++;
    }
    return n;
  }

  private void frame() {
    int lost = spots - seeing().size();
    boolean good = lost <= few;
    int found = state;
    int in = stay;
    int sofar = counted(true, good);
    int all = counted(false, good);
    if (found == 1 && sofar == 3) {
      go(2);
    } else if (found == 2 && !good) {
      go(3);
    } else if (found == 2) {
      int[] wholes = wholes();
      int[] wish = new int[parts];
      for (int p = 0; p < parts; p++) wish[p] = units[p] - gain * wholes[p] / 100;
      units = nearestTo(wish);
    } else if (found == 3 && sofar == 5) {
      go(2);
    } else if (found == 3 && all == 20) {
      go(0);
      Arrays.fill(units, 0);
    }
    frames.add(new Frame(found, state, lost, sum(), good, in));
  }

  private int sum() {
    int sum = 0;
    for (int u : units) sum += u;
    return sum;
  }

  int frames(int n) {
    if (!in(n, 1, 100)) return BAD;
    for (int i = 0; i < n; i++) frame();
    return state;
  }

  int state(int i) {
    if (in(i, 0, parts - 1)) return units[i];
    if (i == parts) return tip;
    if (i == parts + 1) return state;
    return i == parts + 2 ? frames.size() : BAD - FAR;
  }

  int units(int part, int v) {
    if (!isPart(part) || !in(v, -limit, limit)) return BAD - FAR;
    int was = units[part];
    units[part] = v;
    return was;
  }

  int shed() {
    int share = sum() / parts;
    tip += share;
    for (int p = 0; p < parts; p++) units[p] -= share;
    return share;
  }

  int log(int i, int what) {
    if (!in(i, 0, Math.min(30, frames.size()) - 1) || !in(what, 0, 2)) return BAD - FAR;
    Frame f = frames.get(frames.size() - 1 - i);
    return what == 0 ? f.behind : what == 1 ? f.lost : f.sum;
  }

  int loop(int which, int sheet, int lane, int from, int n) {
    if (!in(which, 0, 1) || !in(n, 1, 5)) return BAD;
    int no = refuse(sheet, lane, from, n);
    if (no != 0) return no;
    int[] row = take(sheet, from, n);
    if (!all(row, -50, 50)) return NOT;
    loops[which] = row;
    return n;
  }

  private static int term(int[] row, int i) {
    return i < row.length ? row[i] : 0;
  }

  static boolean isSteady(int[] d, int[] n, int gain) {
    long[] a = new long[5];
    for (int i = 0; i < 5; i++) a[i] = 100L * term(d, i) + (long) gain * term(n, i);
    int degree = 4;
    while (degree >= 0 && a[degree] == 0) degree--;
    if (degree < 0) return false;
    Ratio[][] m = new Ratio[degree][degree];
    for (int i = 1; i <= degree; i++) {
      for (int j = 1; j <= degree; j++) {
        long sum = 0;
        for (int k = 1; k <= Math.min(i, j); k++) {
          sum += a[degree - i + k] * a[degree - j + k] - a[i - k] * a[j - k];
        }
        m[i - 1][j - 1] = Ratio.of(sum);
      }
    }
    // positive definite: every pivot is above 0
    for (int i = 0; i < degree; i++) {
      if (m[i][i].above.signum() <= 0) return false;
      for (int r = i + 1; r < degree; r++) {
        Ratio f = m[r][i].by(m[i][i]);
        for (int j = i; j < degree; j++) m[r][j] = m[r][j].minus(f.times(m[i][j]));
      }
    }
    return true;
  }

  int steady(int g) {
    if (!in(g, 0, 100)) return BAD;
    return isSteady(loops[0], loops[1], g) ? 1 : 0;
  }

  int unsteady(int from, int to) {
    if (!in(from, 0, 100) || !in(to, 0, 100) || from > to) return BAD;
    for (int g = from; g <= to; g++) if (!isSteady(loops[0], loops[1], g)) return g;
    return NONE;
  }

  int cell(int layer, int i, int v) {
    if (!in(layer, 0, 2) || !in(i, 0, 31) || !in(v, -99, 99)) return BAD - FAR;
    int was = cells[layer][i];
    cells[layer][i] = v;
    return was;
  }

  int wind(int layer, int v) {
    if (!in(layer, 0, 2) || !in(v, -31, 31)) return BAD - FAR;
    int was = winds[layer];
    winds[layer] = v;
    return was;
  }

  int foretell(int spot, int frame) {
    if (!isSpot(spot) || !in(frame, 0, 9999)) return BAD - FAR;
    int sum = 0;
    for (int l = 0; l < 3; l++) {
      int at = step * spot + winds[l] * frame;
      while (at < 0) at += 32 * 1000;
      sum += cells[l][(at + 1) % 32] - cells[l][at % 32];
    }
    return sum;
  }

  int guess(int a, int b, int lane) {
    int one = refuse(a, lane, 0, 32);
    int two = refuse(b, lane, 0, 32);
    for (int no : new int[] {BAD, NULL, CAST, INDEX}) if (one == no || two == no) return no;
    int[] first = take(a, 0, 32);
    int[] second = take(b, 0, 32);
    int best = -1;
    BigInteger least = null;
    for (int k = 0; k < 32; k++) {
      BigInteger sum = BigInteger.ZERO;
      for (int i = 0; i < 32; i++) {
        sum = sum.add(BigInteger.valueOf(first[i]).subtract(BigInteger.valueOf(second[(i + k) % 32])).abs());
      }
      if (least == null || sum.compareTo(least) < 0) {
        least = sum;
        best = k;
      }
    }
    return best;
  }

  int sheet(int sheet, int lane, int n) {
    if (!in(sheet, 0, 3) || !in(lane, 0, 2) || n > 40) return BAD;
    if (n < 0) return SIZE;
    sheets[sheet] = lane == 0 ? new byte[n] : lane == 1 ? new short[n] : new int[n];
    return n;
  }

  int drop(int sheet) {
    if (!in(sheet, 0, 3)) return BAD;
    if (sheets[sheet] == null) return NULL;
    int had = length(sheets[sheet]);
    sheets[sheet] = null;
    return had;
  }

  int item(int sheet, int lane, int i, int v) {
    int no = refuse(sheet, lane, i, 1);
    if (no != 0) return no;
    if (lane == 0) ((byte[]) sheets[sheet])[i] = (byte) v;
    if (lane == 1) ((short[]) sheets[sheet])[i] = (short) v;
    if (lane == 2) ((int[]) sheets[sheet])[i] = v;
    return 1;
  }

  int layer(int layer, int sheet, int lane, int from) {
    if (!in(layer, 0, 2)) return BAD;
    int no = refuse(sheet, lane, from, 32);
    if (no != 0) return no;
    int[] row = take(sheet, from, 32);
    if (!all(row, -99, 99)) return NOT;
    cells[layer] = row;
    return 32;
  }
}
