import java.math.BigInteger;
import java.util.Arrays;

/** Edges of the terms' second part, and of promises 11 to 16: bends. */
final class EdgesOfBends extends Edges {
  /** The greatest SLOPES, one after the other above and below 0. */
  private static final int[] STEEP = {3000, -3000, 3000, -3000, 3000, -3000, 3000, -3000};

  static void run() {
    deadBendsAsTheOneAhead();
    column();
    seenParts();
    seenOfManyParts();
    seenOfLostSpots();
    bendOfOnePart();
    bendOfMoreSpotsThanParts();
    bendsNotSeen();
    lowestTerms();
    wholeNearest();
    wholeHeld();
    allowedByLimit();
    allowedByNear();
    allowedDead();
    nearestOfLikeOnes();
    dead();
    deadBad();
    seen();
    bend();
    bendBad();
    whole();
    wholeBad();
    nearest();
    nearestBad();
    off();
  }

  /** As many SPOTS as PARTS, each telling of one PART alone: WHOLE of a PART is its SLOPE. */
  private static StillStars wished(int... wholes) {
    StillStars x = mirror(wholes.length, wholes.length);
    for (int p = 0; p < wholes.length; p++) {
      x.table(p, p, 1);
    }
    slopes(x, wholes);
    return x;
  }

  private static void isRow(String call, StillStars x, long off, int... row) {
    for (int p = 0; p < row.length; p++) {
      is(call + " nearest " + p, x.nearest(p), row[p]);
    }
    is(call + " off", x.off(), off);
  }

  // ---- terms

  private static void deadBendsAsTheOneAhead() {
    about(0, "DEAD is a PART (not 0), or not (at first): it bends as the one ahead of it does.");
    StillStars x = mirror(5, 5);
    columns(x, new int[] {1}, new int[] {0, 1}, new int[] {0, 0, 1}, new int[] {0, 0, 0, 1}, new int[] {0, 0, 0, 0, 1});
    slopes(x, 10, 20, 30, 40, 50);
    for (int p = 0; p < 5; p++) {
      isBend("none is dead", x, p, 10 * p + 10, 1);
    }
    x.dead(4, true);
    // 40 and 50 by one COLUMN of (1, 1)
    isBend("the last", x, 4, 45, 1);
    isBend("ahead of the last", x, 3, 45, 1);
    isBend("not further", x, 2, 30, 1);
    x.dead(4, false);
    isBend("not dead again", x, 4, 50, 1);
    for (int p = 1; p < 5; p++) {
      x.dead(p, true);
    }
    for (int p = 0; p < 5; p++) {
      isBend("all but 0", x, p, 30, 1);
      is("all but 0: whole " + p, x.whole(p), 30);
    }
    is("PART 0 is not", x.dead(0, true), BAD);
    x.table(0, 0, 2);
    // (2, 1, 1, 1, 1): 160 by 8; then (2, 0, 1, 1, 1): 140 by 7; then (2, 0, 0, 1, 1): 110 by 6
    isBend("another column", x, 4, 20, 1);
    x.table(1, 1, 0);
    isBend("a dead one that tells nothing", x, 1, 20, 1);
    x.table(2, 2, 0);
    isBend("a fraction", x, 4, 55, 3);
    isBend("of the one ahead", x, 0, 55, 3);
  }

  private static void column() {
    about(0, "LIVE are all others; a LIVE one's COLUMN is that of THE TABLE, with those of DEAD ones that follow it"
        + " (one behind the other) added, for SPOTS that are not LOST.");
    for (int sign = -1; sign <= 1; sign += 2) {
      StillStars x = mirror(1, 5);
      for (int p = 0; p < 5; p++) {
        x.table(0, p, 9 * sign);
        x.dead(p, true);
      }
      int[][] due = {{45, 1, 1}, {1, 1, 45}, {3000, 200, 3}, {-3000, -200, 3}, {-46, -46, 45}};
      for (int[] d : due) {
        slope(x, 0, d[0]);
        isBend("45 is not held to 9: " + d[0], x, 4, sign * d[1], d[2]);
      }
    }
    StillStars x = mirror(3, 5);
    columns(x, new int[] {1}, new int[] {2}, new int[] {0, 3}, new int[] {0, 4, 9}, new int[] {0, -2, -9});
    slopes(x, 30, 50, 1);
    x.dead(1, true);
    x.dead(3, true);
    x.dead(4, true);
    is("two LIVE ones", x.seen(), 1 + 4);
    int[] bends = {10, 10, 10, 10, 10};
    for (int p = 0; p < 5; p++) {
      isBend("(3, 0, 0) and (0, 5, 0)", x, p, bends[p], 1);
    }
    x.dead(3, false);
    is("three LIVE ones, (0, 2, 0) behind (0, 3, 0)", x.seen(), 1 + 4);
    isBend("a LIVE one ends what follows", x, 2, 50, 3);
    isBend("the LIVE one is not SEEN", x, 3, 0, 1);
    isBend("nor the one that follows it", x, 4, 0, 1);
    x.dead(3, true);
    x.light(1, 12, 0);
    is("SPOT 1 is LOST", x.spot(1, 1), 1);
    is("(3, 0) and (0, 0) are left", x.seen(), 1);
    isBend("by the others", x, 1, 10, 1);
    isBend("not SEEN without it", x, 2, 0, 1);
    isBend("nor what follows", x, 4, 0, 1);
  }

  private static void isSeen(int bits, int spots, int[]... columns) {
    StillStars x = mirror(spots, columns.length);
    slopes(x, Arrays.copyOf(STEEP, spots));
    columns(x, columns);
    is("seen of " + Arrays.deepToString(columns), x.seen(), bits);
  }

  private static void seenParts() {
    about(0, "SEEN are LIVE PARTS, from 0 on, whose COLUMN is no sum of multiples of those of SEEN ones ahead.");
    isSeen(0, 1, new int[] {0});
    isSeen(1, 1, new int[] {1});
    isSeen(1, 1, new int[] {-9});
    isSeen(2, 1, new int[] {0}, new int[] {5}, new int[] {3});
    isSeen(16, 1, new int[] {0}, new int[] {0}, new int[] {0}, new int[] {0}, new int[] {9});
    isSeen(1, 2, new int[] {9, 9}, new int[] {9, 9});
    isSeen(3, 2, new int[] {9, 9}, new int[] {9, 8});
    isSeen(3, 2, new int[] {9, 8}, new int[] {8, 7});
    isSeen(1, 2, new int[] {3, 6}, new int[] {2, 4});
    isSeen(1, 2, new int[] {2, 4}, new int[] {3, 6});
    isSeen(1, 2, new int[] {1, -1}, new int[] {-9, 9});
    isSeen(3, 2, new int[] {1, 0}, new int[] {0, 1}, new int[] {1, 1});
    isSeen(5, 2, new int[] {1, 0}, new int[] {2, 0}, new int[] {0, 1});
    isSeen(6, 2, new int[] {0, 0}, new int[] {2, 0}, new int[] {0, -1}, new int[] {9, 9});
    isSeen(3, 8, new int[] {9, 9, 9, 9, 9, 9, 9, 9}, new int[] {9, 9, 9, 9, 9, 9, 9, 8});
    isSeen(1, 8, new int[] {9, 9, 9, 9, 9, 9, 9, 9}, new int[] {-9, -9, -9, -9, -9, -9, -9, -9});
    isSeen(7, 3, new int[] {1, 2, 3}, new int[] {4, 5, 6}, new int[] {7, 8, 8});
    isSeen(3, 3, new int[] {1, 2, 3}, new int[] {4, 5, 6}, new int[] {7, 8, 9});
  }

  private static void seenOfManyParts() {
    about(0, "from 0 on, whose COLUMN is no sum of multiples");
    int[][] five = {{9, -8, 7, 0, 0, 1, -1, 2}, {-9, 9, 0, 3, -4, 0, 0, 5}, {1, 1, -1, 1, -1, 1, -1, 1},
      {0, 0, 0, 4, 4, -4, 4, -4}, new int[8]};
    for (int s = 0; s < 8; s++) {
      five[4][s] = five[0][s] + five[1][s] + five[2][s] + five[3][s];
    }
    // 4 COLUMNS and their sum; then one number of the sum is another
    isSeen(15, 8, five);
    for (int s = 0; s < 8; s++) {
      int was = five[4][s];
      five[4][s] += was > 0 ? -1 : 1;
      isSeen(31, 8, five);
      five[4][s] = was;
    }
    int[] none = new int[8];
    isSeen(0, 8, none, none, none, none, none);
    isSeen(1, 8, five[3], five[3], five[3], five[3], five[3]);
    isSeen(3, 8, five[3], five[2], five[3], five[2], none);
    isSeen(16, 8, none, none, none, none, five[1]);
    isSeen(3, 2, new int[] {1, 2}, new int[] {2, 1}, new int[] {3, 4}, new int[] {5, 6}, new int[] {7, 8});
  }

  private static void seenOfLostSpots() {
    about(0, "for SPOTS that are not LOST.");
    StillStars x = mirror(5, 5);
    slopes(x, 1, 1, 1, 1, 1);
    for (int p = 0; p < 5; p++) {
      x.table(p, p, 9);
    }
    int bits = 31;
    for (int s = 0; s < 5; s++) {
      is("LOST below " + s, x.seen(), bits);
      x.light(s, s % 2 == 0 ? 3 : 12, 0);
      bits -= 1 << s;
    }
    is("all LOST", x.seen(), 0);
    for (int p = 0; p < 5; p++) {
      isBend("all LOST", x, p, 0, 1);
    }
    x.light(4, 3, 70);
    is("just enough light", x.seen(), 16);
    x.light(4, 3, 69);
    is("just not enough", x.seen(), 0);
  }

  private static void bendOfOnePart() {
    about(0, "of those SEEN fractions so that the sum of squares of what is left (SLOPE of a SPOT that is not LOST,"
        + " less all COLUMNS times BENDS) is least.");
    for (int number = -9; number <= 9; number++) {
      StillStars x = mirror(1, 1);
      x.table(0, 0, number);
      for (int slope : new int[] {-3000, -2999, -9, -1, 0, 1, 7, 8, 2999, 3000}) {
        slope(x, 0, slope);
        is("SLOPE", x.spot(0, 3), slope);
        long shared = gcd(slope, number);
        long sign = number < 0 ? -1 : 1;
        isBend(slope + " by " + number, x, 0, number == 0 ? 0 : sign * slope / shared, number == 0 ? 1 : sign * number / shared);
      }
    }
  }

  private static long gcd(long a, long b) {
    return b == 0 ? Math.abs(a) : gcd(b, a % b);
  }

  private static void bendOfMoreSpotsThanParts() {
    about(0, "(SLOPE of a SPOT that is not LOST, less all COLUMNS times BENDS) is least.");
    StillStars x = mirror(8, 1);
    for (int s = 0; s < 8; s++) {
      x.table(s, 0, s % 2 == 0 ? 9 : -9);
    }
    slopes(x, STEEP);
    isBend("eight that tell the same", x, 0, 1000, 3);
    for (int s = 0; s < 8; s++) {
      x.table(s, 0, 9);
    }
    isBend("eight that tell nothing together", x, 0, 0, 1);
    x.light(7, 0, 0);
    isBend("seven: 27000 by 567", x, 0, 1000, 21);
    StillStars y = mirror(3, 2);
    columns(y, new int[] {1, 1, 1}, new int[] {0, 1, 2});
    slopes(y, 0, 0, 1);
    // a line through (0, 0), (1, 0), (2, 1): -1/6 + x/2
    isBend("a line", y, 0, -1, 6);
    isBend("a line", y, 1, 1, 2);
    slopes(y, 3000, -3000, 3000);
    isBend("a line upright to it", y, 0, 1000, 1);
    isBend("a line upright to it", y, 1, 0, 1);
    StillStars z = mirror(2, 2);
    columns(z, new int[] {9, 8}, new int[] {8, 7});
    slopes(z, 3000, -3000);
    isBend("the farthest of two", z, 0, -45000, 1);
    isBend("the farthest of two", z, 1, 51000, 1);
  }

  private static void bendsNotSeen() {
    about(0, "BENDS: of PARTS that are not SEEN 0 (DEAD ones: as told);");
    StillStars x = mirror(2, 4);
    columns(x, new int[] {0, 0}, new int[] {2, 2}, new int[] {9, 9}, new int[] {0, 0});
    slopes(x, 6, 6);
    isBend("an empty COLUMN", x, 0, 0, 1);
    isBend("the first that tells", x, 1, 3, 1);
    isBend("a multiple", x, 2, 0, 1);
    isBend("the last", x, 3, 0, 1);
    x.dead(3, true);
    isBend("DEAD behind one not SEEN", x, 3, 0, 1);
    x.dead(3, false);
    x.dead(1, true);
    is("PART 0 is SEEN by its DEAD one", x.seen(), 1);
    isBend("by its DEAD one", x, 0, 3, 1);
    isBend("the DEAD one", x, 1, 3, 1);
    isBend("still a multiple", x, 2, 0, 1);
    x.dead(2, true);
    isBend("with both: 12 by 22", x, 2, 6, 11);
  }

  private static void lowestTerms() {
    about(0, "Told above and below in lowest terms, below above 0.");
    StillStars x = mirror(1, 1);
    is("nothing, below", x.bend(0, 1), 1);
    x.table(0, 0, -9);
    slope(x, 0, 0);
    isBend("0 by -9", x, 0, 0, 1);
    slope(x, 0, 6);
    isBend("6 by -9", x, 0, -2, 3);
    slope(x, 0, -6);
    isBend("-6 by -9", x, 0, 2, 3);
    slope(x, 0, -9);
    isBend("-9 by -9", x, 0, 1, 1);
    StillStars y = mirror(2, 2);
    columns(y, new int[] {0, 2}, new int[] {2, 0});
    slopes(y, -3, 5);
    isBend("turned, 5 by 2", y, 0, 5, 2);
    isBend("turned, -3 by 2", y, 1, -3, 2);
    StillStars z = mirror(8, 5);
    int[][] upright = new int[5][8];
    for (int p = 0; p < 5; p++) {
      for (int s = 0; s < 8; s++) {
        upright[p][s] = Integer.bitCount(s & (p + 1)) % 2 == 0 ? 9 : -9;
      }
    }
    columns(z, upright);
    slopes(z, STEEP);
    // STEEP is the row of PART 0 (s & 1) times 3000 by 9
    isBend("the greatest determinants", z, 0, 1000, 3);
    for (int p = 1; p < 5; p++) {
      isBend("upright to it", z, p, 0, 1);
    }
    slope(z, 7, -2999);
    // the last row is -9, -9, 9, -9, 9
    isBend("off by one", z, 0, 23999, 72);
    isBend("off by one", z, 1, -1, 72);
    isBend("off by one", z, 2, 1, 72);
    isBend("off by one", z, 3, -1, 72);
    isBend("off by one", z, 4, 1, 72);
  }

  private static void wholeNearest() {
    about(0, "WHOLE: the nearest whole number (halves away from 0),");
    int[][] due = {{2, 1, 1}, {2, -1, -1}, {2, 3, 2}, {2, -3, -2}, {2, 2, 1}, {2, 0, 0}, {4, 1, 0}, {4, -1, 0}, {4, 2, 1},
      {4, -2, -1}, {4, 3, 1}, {4, 5, 1}, {4, 6, 2}, {4, -6, -2}, {3, 1, 0}, {3, 2, 1}, {3, -1, 0}, {3, -2, -1}, {9, 4, 0},
      {9, 5, 1}, {9, -4, 0}, {9, -5, -1}, {-2, 1, -1}, {-2, -1, 1}, {-9, 5, -1}, {1, 3000, 3000}, {1, -3000, -3000},
      {2, 2999, 1500}, {2, -2999, -1500}, {8, 4, 1}, {8, -4, -1}, {8, 3, 0}};
    for (int[] d : due) {
      StillStars x = mirror(1, 1);
      x.table(0, 0, d[0]);
      slope(x, 0, d[1]);
      is(d[1] + " by " + d[0], x.whole(0), d[2]);
    }
  }

  private static void wholeHeld() {
    about(0, "held to -9999 .. 9999.");
    StillStars x = mirror(2, 2);
    columns(x, new int[] {9, 8}, new int[] {8, 7});
    // BENDS are 8 s1 - 7 s0 and 8 s0 - 9 s1
    int[][] due = {{-1, 1249, 9999, 9999}, {0, 1250, 10000, 9999}, {2, 1251, 9994, 9994}, {1, -1249, -9999, -9999},
      {0, -1250, -10000, -9999}, {-6, 1244, 9994, 9994}, {3000, -3000, -45000, -9999}, {-3000, 3000, 45000, 9999}};
    for (int[] d : due) {
      slopes(x, d[0], d[1]);
      isBend("of " + d[0] + " " + d[1], x, 0, d[2], 1);
      is("of " + d[0] + " " + d[1], x.whole(0), d[3]);
    }
    StillStars y = mirror(2, 2);
    columns(y, new int[] {8, 6}, new int[] {7, 5});
    // the first BEND is (7 s1 - 5 s0) by 2
    int[][] halves = {{0, 2857, 19999, 9999}, {-1, 2856, 19997, 9999}, {5, 2860, 19995, 9998}, {0, -2857, -19999, -9999},
      {1, -2856, -19997, -9999}, {-5, -2860, -19995, -9998}};
    for (int[] h : halves) {
      slopes(y, h[0], h[1]);
      isBend("half of " + h[2], y, 0, h[2], 2);
      is("half of " + h[2], y.whole(0), h[3]);
    }
  }

  private static void allowedByLimit() {
    about(0, "ALLOWED are rows of whole units of all PARTS, each -LIMIT .. LIMIT (1 .. 60; 40 at first),");
    for (int limit : new int[] {40, 1, 2, 59, 60}) {
      for (int sign = -1; sign <= 1; sign += 2) {
        int[][] due = {{limit - 1, limit - 1, 0}, {limit, limit, 0}, {limit + 1, limit, 1}, {limit + 2, limit, 4}};
        for (int[] d : due) {
          StillStars x = wished(sign * d[0]);
          if (limit != 40) {
            x.set(4, limit);
          }
          isRow("LIMIT " + limit + ", " + sign * d[0], x, d[2], sign * d[1]);
        }
      }
    }
    StillStars x = wished(3000, 3000, -3000, -3000, 3000);
    x.set(5, 120);
    isRow("five PARTS far off", x, 5L * 2960 * 2960, 40, 40, -40, -40, 40);
    x.set(4, 60);
    isRow("five PARTS less far", x, 5L * 2940 * 2940, 60, 60, -60, -60, 60);
    x.set(4, 1);
    isRow("five PARTS farther", x, 5L * 2999 * 2999, 1, 1, -1, -1, 1);
  }

  private static void allowedByNear() {
    about(0, "each no more than NEAR (0 .. 120; 30 at first) from the one ahead,");
    // NEAR, wishes, off, row
    int[][] due = {{30, 0, 30, 0, 0, 30}, {30, 0, -30, 0, 0, -30}, {30, 30, 0, 0, 30, 0}, {30, 0, 31, 1, 0, 30},
      {30, 0, -31, 1, -1, -31}, {30, 31, 0, 1, 30, 0}, {30, 0, 32, 2, 1, 31}, {30, 0, -32, 2, -1, -31},
      {30, 15, -15, 0, 15, -15}, {30, 16, -15, 1, 15, -15}, {30, 40, -40, 1250, 15, -15}, {0, 0, 0, 0, 0, 0},
      {0, 0, 1, 1, 0, 0}, {0, 1, 0, 1, 0, 0}, {0, 0, -1, 1, -1, -1}, {0, 0, 2, 2, 1, 1}, {0, 40, 40, 0, 40, 40},
      {1, 0, 1, 0, 0, 1}, {1, 0, 2, 1, 0, 1}, {1, 5, 7, 1, 5, 6}, {80, 40, -40, 0, 40, -40}, {79, 40, -40, 1, 39, -40},
      {79, -40, 40, 1, -40, 39}, {120, 40, -40, 0, 40, -40}};
    for (int[] d : due) {
      StillStars x = wished(d[1], d[2]);
      if (d[0] != 30) {
        x.set(5, d[0]);
      }
      isRow("NEAR " + d[0] + " of " + d[1] + " " + d[2], x, d[3], d[4], d[5]);
    }
    StillStars x = wished(60, -60);
    x.set(4, 60);
    x.set(5, 120);
    isRow("the widest", x, 0, 60, -60);
    x.set(5, 119);
    isRow("not quite the widest", x, 1, 59, -60);
    StillStars y = wished(0, 30, 60);
    y.set(4, 60);
    isRow("from the one ahead, not from others", y, 0, 0, 30, 60);
    y.set(5, 29);
    isRow("a little nearer", y, 2, 1, 30, 59);
    StillStars z = wished(20, 20, 20, 20, -40);
    z.set(5, 0);
    // 40 by 5
    isRow("all alike", z, 4L * 144 + 48 * 48, 8, 8, 8, 8, 8);
  }

  private static void allowedDead() {
    about(0, "DEAD ones like the one ahead.");
    StillStars x = mirror(2, 3);
    x.table(0, 0, 1);
    x.table(1, 2, 1);
    x.dead(1, true);
    int[][] due = {{0, 30, 0, 0, 0, 30}, {0, 31, 1, 0, 0, 30}, {31, 0, 1, 31, 31, 1}, {0, -31, 1, 0, 0, -30},
      {41, 41, 3, 40, 40, 40}, {-41, -41, 3, -40, -40, -40}};
    for (int[] d : due) {
      slopes(x, d[0], d[1]);
      isRow("of " + d[0] + " " + d[0] + " " + d[1], x, d[2], d[3], d[4], d[5]);
    }
    // a DEAD row that is wished apart: UNITS, not WHOLE, may differ
    StillStars y = mirror(1, 5);
    y.set(2, 8);
    y.start();
    y.frames(3);
    int[] units = {1, 0, 0, 0, 0};
    for (int p = 0; p < 5; p++) {
      y.dead(p, true);
      y.units(p, units[p]);
    }
    y.frames(1);
    for (int p = 0; p < 5; p++) {
      is("of 1 0 0 0 0", y.state(p), 0);
      y.units(p, p < 3 ? 1 : 0);
    }
    y.frames(1);
    for (int p = 0; p < 5; p++) {
      is("of 1 1 1 0 0", y.state(p), 1);
    }
    y.set(5, 0);
    y.dead(2, false);
    y.units(2, -4);
    y.units(3, -4);
    y.units(4, -4);
    y.frames(1);
    for (int p = 0; p < 5; p++) {
      is("1 1 with -4 -4 -4, NEAR 0", y.state(p), -2);
    }
  }

  private static void nearestOfLikeOnes() {
    about(0, "NEAREST to a row: that with the least sum of squares of what it is off; of like ones the least in order"
        + " (the first PART counts most).");
    StillStars two = wished(0, 1);
    two.set(5, 0);
    isRow("0 or 1", two, 1, 0, 0);
    slopes(two, -1, 0);
    isRow("-1 or 0", two, 1, -1, -1);
    slopes(two, 3, -2);
    isRow("0 or 1 from both sides", two, 13, 0, 0);
    StillStars three = wished(0, 31, 0);
    // one step on each side: (0, 30, 0), or (1, 31, 1) off by 2
    isRow("a hill", three, 1, 0, 30, 0);
    slopes(three, 0, 32, 0);
    // (0, 30, 0) 4, (1, 31, 1) 3
    isRow("a higher hill", three, 3, 1, 31, 1);
    slopes(three, 0, -32, 0);
    isRow("a pit", three, 3, -1, -31, -1);
    slopes(three, 31, 0, 31);
    isRow("a dip", three, 1, 31, 1, 31);
    StillStars steps = wished(0, 31, 62, 93, 124);
    steps.set(4, 60);
    // units 0 30 60 60 60 first; (0, 30, 60) 1 + 4, (1, 31, 60) 1 + 4, (0, 31, 60)? too far
    isRow("the first PART counts most", steps, 1 + 4 + 33 * 33 + 64 * 64, 0, 30, 60, 60, 60);
    StillStars second = wished(0, 0, 31);
    // (0, 0, 30), (0, 1, 31): of these the second PART tells
    isRow("then the second", second, 1, 0, 0, 30);
    slopes(second, 0, 0, -31);
    isRow("then the second, below 0", second, 1, 0, -1, -31);
    StillStars last = wished(0, 0, 0, 0, 1);
    last.set(5, 0);
    isRow("the last does not count most", last, 1, 0, 0, 0, 0, 0);
  }

  // ---- promises 11 to 16

  private static void dead() {
    about(11, "A PART is DEAD, or not: whether it was (1, 0).");
    for (int a = 2; a <= 5; a++) {
      StillStars x = mirror(1, a);
      for (int p = 1; p < a; p++) {
        is("at first " + p, x.dead(p, true), 0);
        is("still " + p, x.dead(p, true), 1);
      }
      for (int p = 1; p < a; p++) {
        is("each its own " + p, x.dead(p, false), 1);
        is("no more " + p, x.dead(p, false), 0);
      }
    }
    StillStars x = new StillStars();
    x.units(1, 7);
    x.table(0, 1, 5);
    x.dead(1, true);
    is("UNITS stay", x.state(1), 7);
    is("THE TABLE stays", x.told(0, 1, 0), 5);
  }

  private static void deadBad() {
    about(11, "BAD: also PART 0.");
    for (int a = 1; a <= 5; a++) {
      StillStars x = mirror(1, a);
      int parts = a;
      for (boolean is : new boolean[] {true, false}) {
        is("PART 0 of " + a, x.dead(0, is), BAD);
        outside("dead of " + a, 0, parts - 1, BAD, v -> x.dead(v, is));
      }
      x.table(0, 0, 1);
      is("a LOST SPOT tells nothing", x.seen(), 0);
      slope(x, 0, 1);
      is("PART 0 is SEEN", x.seen(), 1);
    }
  }

  private static void seen() {
    about(12, "SEEN PARTS as bits.");
    is("none at first", new StillStars().seen(), 0);
    for (int bits = 0; bits < 32; bits++) {
      StillStars x = mirror(5, 5);
      slopes(x, 0, 0, 0, 0, 0);
      for (int p = 0; p < 5; p++) {
        x.table(4 - p, p, bits >> p & 1);
      }
      is("seen", x.seen(), bits);
      for (int p = 0; p < 5; p++) {
        x.table(4 - p, p, -9);
        x.dead(p, (bits >> p & 1) == 0);
      }
      is("live ones", x.seen(), bits | 1);
    }
  }

  private static void bend() {
    about(13, "A PART's BEND: above (0), below (1).");
    StillStars x = mirror(2, 2);
    isBend("at first", x, 0, 0, 1);
    isBend("at first", x, 1, 0, 1);
    columns(x, new int[] {0, 7}, new int[] {-9, 0});
    slopes(x, 3000, -3000);
    isBend("below 0", x, 0, -3000, 7);
    isBend("by a number below 0", x, 1, -1000, 3);
    StillStars y = mirror(8, 5);
    int[][] columns = {{9, 2, 0, -5, 1, 9, 3, 7}, {-9, 5, 0, 5, 2, 9, -1, 7}, {1, -7, 9, 5, 3, -9, 0, 1},
      {0, 4, -3, 8, 4, 9, 2, -8}, {3, 4, 1, -2, 5, -9, 6, 0}};
    columns(y, columns);
    slopes(y, STEEP);
    BigInteger[] sums = leftSums(y, columns, STEEP);
    for (int p = 0; p < 5; p++) {
      is("what is left stands upright on COLUMN " + p, sums[p].signum(), 0);
      is("in lowest terms " + p, gcd(y.bend(p, 0), y.bend(p, 1)), 1);
      due.holds("below is above 0", y.bend(p, 1) > 0);
    }
  }

  /** For each COLUMN its product with what is left, times all belows: 0 just where the squares are least. */
  private static BigInteger[] leftSums(StillStars x, int[][] columns, int[] slopes) {
    BigInteger all = BigInteger.ONE;
    for (int p = 0; p < columns.length; p++) {
      all = all.multiply(BigInteger.valueOf(x.bend(p, 1)));
    }
    BigInteger[] sums = new BigInteger[columns.length];
    Arrays.fill(sums, BigInteger.ZERO);
    for (int s = 0; s < slopes.length; s++) {
      BigInteger left = all.multiply(BigInteger.valueOf(slopes[s]));
      for (int p = 0; p < columns.length; p++) {
        BigInteger times = BigInteger.valueOf(x.bend(p, 0) * columns[p][s]);
        left = left.subtract(all.divide(BigInteger.valueOf(x.bend(p, 1))).multiply(times));
      }
      for (int p = 0; p < columns.length; p++) {
        sums[p] = sums[p].add(left.multiply(BigInteger.valueOf(columns[p][s])));
      }
    }
    return sums;
  }

  private static void bendBad() {
    about(13, "BAD less 2^62 (-4611686018427387905).");
    StillStars x = mirror(2, 3);
    for (int what = 0; what < 2; what++) {
      int one = what;
      outside("bend of a PART", 0, 2, BAD_FARTHEST, v -> x.bend(v, one));
    }
    outside("bend of what", 0, 1, BAD_FARTHEST, v -> x.bend(2, v));
    is("it is -1 - 2^62", x.bend(3, 0), -1L - (1L << 62));
  }

  private static void whole() {
    about(14, "WHOLE.");
    StillStars x = new StillStars();
    is("at first", x.whole(1), 0);
    StillStars y = wished(3000, -3000, 0, 1, -1);
    int[] due = {3000, -3000, 0, 1, -1};
    for (int p = 0; p < 5; p++) {
      is("whole " + p, y.whole(p), due[p]);
    }
    y.table(0, 0, 0);
    is("not SEEN", y.whole(0), 0);
    y.dead(1, true);
    is("DEAD, as PART 0", y.whole(1), y.whole(0));
    is("that is -3000", y.whole(0), -3000);
  }

  private static void wholeBad() {
    about(14, "BAD less 10000.");
    StillStars x = wished(-3000, -3000, -3000);
    outside("whole of a PART", 0, 2, BAD_FAR, x::whole);
    StillStars y = mirror(2, 2);
    columns(y, new int[] {9, 8}, new int[] {8, 7});
    slopes(y, 3000, -3000);
    is("the least WHOLE is no refusal", y.whole(0), -9999);
  }

  private static void nearest() {
    about(15, "The row NEAREST to WHOLE of all PARTS: UNITS of one.");
    StillStars x = new StillStars();
    isRow("at first", x, 0, 0, 0);
    x.units(0, 9);
    isRow("not to UNITS", x, 0, 0, 0);
    StillStars y = mirror(2, 2);
    columns(y, new int[] {9, 8}, new int[] {8, 7});
    slopes(y, 3000, -3000);
    // WHOLE, not BENDS: -9999 and 9999
    isRow("to WHOLE as it is held", y, 2L * 9984 * 9984, -15, 15);
    StillStars z = mirror(1, 1);
    z.table(0, 0, 2);
    slope(z, 0, 1);
    isRow("to WHOLE, not to 1 by 2", z, 0, 1);
    is("UNITS stay", z.state(0), 0);
    for (int a = 1; a <= 5; a++) {
      int[] wholes = {40, 10, 40, 10, 40};
      isRow("of " + a, wished(Arrays.copyOf(wholes, a)), 0, Arrays.copyOf(wholes, a));
    }
  }

  private static void nearestBad() {
    about(15, "BAD less 10000.");
    StillStars x = wished(-3000, -3000, -3000);
    outside("nearest of a PART", 0, 2, BAD_FAR, x::nearest);
  }

  private static void off() {
    about(16, "The sum of squares of what that row is off from WHOLE.");
    is("nothing at first", new StillStars().off(), 0);
    StillStars x = mirror(2, 2);
    columns(x, new int[] {9, 8}, new int[] {8, 7});
    slopes(x, 3000, -3000);
    x.set(4, 1);
    is("LIMIT 1", x.off(), 2L * 9998 * 9998);
    x.set(5, 0);
    is("and NEAR 0", x.off(), 2L * 9999 * 9999);
    x.set(4, 60);
    is("NEAR 0 alone", x.off(), 2L * 9999 * 9999);
    x.set(5, 120);
    is("LIMIT 60", x.off(), 2L * 9939 * 9939);
    StillStars y = wished(41, 42, 43, 44, 45);
    is("1 + 4 + 9 + 16 + 25", y.off(), 55);
    y.dead(4, true);
    // 44 and 45 by one COLUMN of (1, 1): 89 by 2
    is("1 + 4 + 9 + 25 + 25", y.off(), 64);
  }
}
