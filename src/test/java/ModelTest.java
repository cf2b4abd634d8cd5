import java.util.Random;

/** Long runs of calls by chance (always the same ones), each answer against the model's. */
public final class ModelTest {
  private static final Due due = new Due("ModelTest");
  private static final int CALLS = 512;

  private final Random random;
  private final String run;
  private final StillStars x = new StillStars();
  private final Model m = new Model();
  private int calls = 0;
  private int spots = 4, parts = 2;
  /** What a SHEET was made as, so that most calls take it so. */
  private final int[] lanes = new int[4], lengths = new int[4];

  private ModelTest(int seed) {
    random = new Random(seed);
    run = "run " + seed + " call ";
  }

  public static void main(String[] args) {
    int runs = args.length > 0 ? Integer.parseInt(args[0]) : 600;
    for (int seed = 0; seed < runs && !due.anyWrong(); seed++) {
      new ModelTest(seed).go(seed % 4);
    }
    polynomials();
    due.end();
  }

  /** What an object answers behind its last call is free. */
  private void is(String call, long got, long want) {
    calls++;
    if (calls <= CALLS) {
      due.is(run + calls + ": " + call, got, want);
    }
  }

  /** Mostly within, often at an edge, now and then just beyond or far off. */
  private int about(int low, int high) {
    switch (random.nextInt(80)) {
      case 0: return low - 1;
      case 1: return high + 1;
      case 2: return random.nextInt();
      case 3: return Integer.MIN_VALUE;
      case 4: return Integer.MAX_VALUE;
      case 5: case 6: case 7: case 8: case 9: return low;
      case 10: case 11: case 12: case 13: case 14: return high;
      default: return low + random.nextInt(high - low + 1);
    }
  }

  private int laneOf(int sheet) {
    return random.nextInt(20) == 0 || sheet < 0 || sheet > 3 ? about(0, 2) : lanes[sheet];
  }

  private int fromOf(int sheet, int n) {
    return about(0, sheet < 0 || sheet > 3 ? 9 : Math.max(0, lengths[sheet] - n));
  }

  private void go(int kind) {
    if (kind != 0) {
      mirror(1 + random.nextInt(8), 1 + random.nextInt(5));
      table(kind == 1 ? 9 : 2);
      boards();
      if (kind == 3) {
        is("start", x.start(), m.start());
      }
    }
    while (calls < CALLS) {
      switch (random.nextInt(kind == 3 ? 14 : 10)) {
        case 0: one(random.nextInt(9)); break;
        case 1: one(9 + random.nextInt(7)); break;
        case 2: one(16 + random.nextInt(9)); break;
        case 3: one(25 + random.nextInt(9)); break;
        case 4: fill(); break;
        case 5: use(); break;
        case 6: one(11 + random.nextInt(5)); break;
        case 7: one(random.nextInt(34)); break;
        case 8: if (random.nextInt(12) == 0) boards(); else ask(); break;
        case 9: if (random.nextInt(12) == 0) table(1 + random.nextInt(9)); else ask(); break;
        default: run(); break;
      }
    }
  }

  private void mirror(int s, int a) {
    is("mirror " + s + " " + a, x.mirror(s, a), m.mirror(s, a));
    if (s >= 1 && s <= 8 && a >= 1 && a <= 5) {
      spots = s;
      parts = a;
    }
  }

  private void table(int most) {
    for (int s = 0; s < spots; s++) {
      for (int p = 0; p < parts; p++) {
        int v = random.nextInt(2 * most + 1) - most;
        is("table " + s + " " + p + " " + v, x.table(s, p, v), m.table(s, p, v));
      }
    }
  }

  private void boards() {
    for (int s = 0; s < spots; s++) {
      int n = random.nextInt(4);
      for (int j = 0; j < n; j++) {
        int i = random.nextInt(16);
        int v = random.nextInt(256);
        is("light " + s + " " + i + " " + v, x.light(s, i, v), m.light(s, i, v));
      }
      if (random.nextBoolean()) {
        int v = random.nextInt(3001);
        is("rest " + s + " " + v, x.rest(s, v), m.rest(s, v));
      }
    }
  }

  /** A SHEET that some call can take. */
  private void fill() {
    int sheet = random.nextInt(4);
    int lane = random.nextInt(3);
    int[] lengthsToTake = {5, 8, 16, 18, 32, 34, 40};
    int n = lengthsToTake[random.nextInt(7)];
    int[] spans = {9, 50, 99, 127, 255, 999, 1001, 40000};
    int span = spans[random.nextInt(8)];
    boolean above = span == 255;
    newSheet(sheet, lane, n);
    for (int i = 0; i < n; i++) {
      int v = above ? random.nextInt(256) : random.nextInt(2 * span + 1) - span;
      is("item " + sheet + " " + lane + " " + i + " " + v, x.item(sheet, lane, i, v), m.item(sheet, lane, i, v));
    }
    use();
  }

  private void newSheet(int sheet, int lane, int n) {
    is("sheet " + sheet + " " + lane + " " + n, x.sheet(sheet, lane, n), m.sheet(sheet, lane, n));
    if (sheet >= 0 && sheet < 4 && lane >= 0 && lane < 3 && n >= 0 && n <= 40) {
      lanes[sheet] = lane;
      lengths[sheet] = n;
    }
  }

  private void use() {
    int[] takers = {2, 7, 23, 33, 29};
    for (int i = 0; i < 4; i++) {
      one(takers[random.nextInt(5)]);
    }
  }

  private void ask() {
    for (int p = 0; p < parts; p++) {
      is("bend above " + p, x.bend(p, 0), m.bend(p, 0));
      is("bend below " + p, x.bend(p, 1), m.bend(p, 1));
      is("whole " + p, x.whole(p), m.whole(p));
      is("nearest " + p, x.nearest(p), m.nearest(p));
      is("state " + p, x.state(p), m.state(p));
    }
    is("seen", x.seen(), m.seen());
    is("off", x.off(), m.off());
  }

  /** FRAMES with BOARDS that come and go, so that all STATES are met. */
  private void run() {
    if (random.nextInt(3) == 0) {
      is("start", x.start(), m.start());
    }
    if (random.nextInt(3) == 0) {
      int least = random.nextInt(3) == 0 ? 4080 : 1;
      is("set 1 " + least, x.set(1, least), m.set(1, least));
    }
    int n = 1 + random.nextInt(random.nextInt(3) == 0 ? 22 : 6);
    is("frames " + n, x.frames(n), m.frames(n));
    for (int i = 0; i < parts + 3; i++) {
      is("state " + i, x.state(i), m.state(i));
    }
    int i = random.nextInt(31);
    for (int what = 0; what < 3; what++) {
      is("log " + i + " " + what, x.log(i, what), m.log(i, what));
    }
  }

  private void one(int which) {
    int a = about(0, spots - 1);
    int p = about(0, parts - 1);
    int sheet = about(0, 3);
    int lane = laneOf(sheet);
    switch (which) {
      case 0: if (random.nextInt(20) == 0) mirror(about(1, 8), about(1, 5)); break;
      case 1: { int i = about(0, 15), v = about(0, 255); is("light " + a + " " + i + " " + v, x.light(a, i, v), m.light(a, i, v)); break; }
      case 2: { int f = fromOf(sheet, 16); is("board " + a + " " + sheet + " " + lane + " " + f, x.board(a, sheet, lane, f), m.board(a, sheet, lane, f)); break; }
      case 3: setting(); break;
      case 4: { int v = about(0, 3000); is("rest " + a + " " + v, x.rest(a, v), m.rest(a, v)); break; }
      case 5: { int w = about(0, 3); is("spot " + a + " " + w, x.spot(a, w), m.spot(a, w)); break; }
      case 6: { int v = about(-9, 9); is("table " + a + " " + p + " " + v, x.table(a, p, v), m.table(a, p, v)); break; }
      case 7: { int b = about(1, 99), f = fromOf(sheet, spots); is("poke " + p + " " + b + " " + sheet + " " + lane + " " + f, x.poke(p, b, sheet, lane, f), m.poke(p, b, sheet, lane, f)); break; }
      case 8: { int w = about(0, 1); is("told " + a + " " + p + " " + w, x.told(a, p, w), m.told(a, p, w)); break; }
      case 9: { boolean is = random.nextInt(3) == 0; is("dead " + p + " " + is, x.dead(p, is), m.dead(p, is)); break; }
      case 10: is("seen", x.seen(), m.seen()); break;
      case 11: { int w = about(0, 1); is("bend " + p + " " + w, x.bend(p, w), m.bend(p, w)); break; }
      case 12: is("whole " + p, x.whole(p), m.whole(p)); break;
      case 13: is("nearest " + p, x.nearest(p), m.nearest(p)); break;
      case 14: is("off", x.off(), m.off()); break;
      case 15: is("start", x.start(), m.start()); break;
      case 16: if (random.nextInt(4) == 0) is("stop", x.stop(), m.stop()); break;
      case 17: { int n = about(1, random.nextInt(9) == 0 ? 100 : 6); is("frames " + n, x.frames(n), m.frames(n)); break; }
      case 18: { int i = about(0, parts + 2); is("state " + i, x.state(i), m.state(i)); break; }
      case 19: case 20: { int v = about(-60, 60); is("units " + p + " " + v, x.units(p, v), m.units(p, v)); break; }
      case 21: is("shed", x.shed(), m.shed()); break;
      case 22: { int i = about(0, 29), w = about(0, 2); is("log " + i + " " + w, x.log(i, w), m.log(i, w)); break; }
      case 23: { int d = about(0, 1), n = about(1, 5), f = fromOf(sheet, 5); is("loop " + d + " " + sheet + " " + lane + " " + f + " " + n, x.loop(d, sheet, lane, f, n), m.loop(d, sheet, lane, f, n)); break; }
      case 24: { int g = about(0, 100); is("steady " + g, x.steady(g), m.steady(g)); break; }
      case 25: { int f = about(0, 100), t = about(0, 100); is("unsteady " + f + " " + t, x.unsteady(f, t), m.unsteady(f, t)); break; }
      case 26: { int l = about(0, 2), i = about(0, 31), v = about(-99, 99); is("cell " + l + " " + i + " " + v, x.cell(l, i, v), m.cell(l, i, v)); break; }
      case 27: { int l = about(0, 2), v = about(-31, 31); is("wind " + l + " " + v, x.wind(l, v), m.wind(l, v)); break; }
      case 28: { int f = about(0, 9999); is("foretell " + a + " " + f, x.foretell(a, f), m.foretell(a, f)); break; }
      case 29: { int b = about(0, 3); is("guess " + sheet + " " + b + " " + lane, x.guess(sheet, b, lane), m.guess(sheet, b, lane)); break; }
      case 30: if (random.nextInt(6) == 0) newSheet(about(0, 3), about(0, 2), about(0, 40)); break;
      case 31: if (random.nextInt(6) == 0) is("drop " + sheet, x.drop(sheet), m.drop(sheet)); break;
      case 32: { int i = fromOf(sheet, 1), v = about(-300, 300); is("item " + sheet + " " + lane + " " + i + " " + v, x.item(sheet, lane, i, v), m.item(sheet, lane, i, v)); break; }
      default: { int l = about(0, 2), f = fromOf(sheet, 32); is("layer " + l + " " + sheet + " " + lane + " " + f, x.layer(l, sheet, lane, f), m.layer(l, sheet, lane, f)); break; }
    }
  }

  private void setting() {
    int what = about(0, 6);
    int[] high = {255, 4080, 8, 200, 60, 120, 8};
    int most = what < 0 || what > 6 ? 9 : high[what];
    int v = about(what == 1 || what == 4 || what == 6 ? 1 : 0, what == 0 ? random.nextInt(4) == 0 ? 255 : 90 : what == 1 && random.nextInt(3) != 0 ? 90 : most);
    is("set " + what + " " + v, x.set(what, v), m.set(what, v));
  }

  /** Polynomials of each length against the model, many of them with zeros near the ring or on it. */
  private static void polynomials() {
    Random random = new Random(26);
    for (int round = 0; round < 4000 && !due.anyWrong(); round++) {
      StillStars x = new StillStars();
      int[] d = polynomial(random);
      int[] n = polynomial(random);
      Due.row(x, 0, 2, d);
      Due.row(x, 1, 1, n);
      x.loop(0, 0, 2, 0, d.length);
      x.loop(1, 1, 1, 0, n.length);
      int first = -4;
      for (int gain = 100; gain >= 0; gain--) {
        boolean steady = Model.isSteady(d, n, gain);
        due.is("polynomials " + round + " gain " + gain, x.steady(gain), steady ? 1 : 0);
        first = steady ? first : gain;
      }
      due.is("polynomials " + round, x.unsteady(0, 100), first);
    }
  }

  private static int[] polynomial(Random random) {
    int[] p = new int[1 + random.nextInt(5)];
    int kind = random.nextInt(4);
    for (int i = 0; i < p.length; i++) {
      int most = kind == 0 ? 50 : kind == 1 ? 3 : i == p.length - 1 ? 50 : kind == 2 ? 12 : 25;
      p[i] = random.nextInt(2 * most + 1) - most;
    }
    if (kind == 3 && p.length == 5) {
      for (int i = 0; i < 2; i++) {
        p[i] = p[4 - i];
      }
    }
    return p;
  }
}
