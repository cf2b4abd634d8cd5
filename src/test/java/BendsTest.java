import java.util.Random;

/** Promises 11 to 16: dead, seen, bend, whole, nearest, off. */
public final class BendsTest {
  private static final Due due = new Due("BendsTest");
  private static final int OFF = -10001;
  private static final long FAR_OFF = -4611686018427387905L;

  public static void main(String[] args) {
    dead();
    deadJoins();
    seen();
    seenIsWithoutLost();
    bend();
    bendGreatest();
    whole();
    nearest();
    nearestTies();
    nearestWidest();
    nearestByEveryRow();
    due.end();
  }

  /** SPOTS whose SLOPES are as told (-3000 .. 3000), by one light and REST. */
  private static void slopes(StillStars x, int... slopes) {
    for (int s = 0; s < slopes.length; s++) {
      int where = slopes[s] > 0 ? 3 : 0;
      Due.shine(x, s, where);
      x.rest(s, 1000 * where - slopes[s]);
    }
  }

  private static void numbers(StillStars x, int[]... rows) {
    for (int s = 0; s < rows.length; s++) {
      for (int p = 0; p < rows[s].length; p++) {
        x.table(s, p, rows[s][p]);
      }
    }
  }

  private static void isBend(String what, StillStars x, int part, long above, long below) {
    due.is(what + " above " + part, x.bend(part, 0), above);
    due.is(what + " below " + part, x.bend(part, 1), below);
  }

  private static void dead() {
    StillStars x = new StillStars();
    x.mirror(4, 5);
    for (int p = 1; p < 5; p++) {
      due.is("11 dead " + p, x.dead(p, true), 0);
      due.is("11 it was " + p, x.dead(p, false), 1);
      due.is("11 it was not " + p, x.dead(p, false), 0);
    }
    due.is("11 bad 0", x.dead(0, true), -1);
    due.is("11 bad 0, not dead", x.dead(0, false), -1);
    due.is("11 bad -1", x.dead(-1, true), -1);
    due.is("11 bad 5", x.dead(5, true), -1);
    due.is("11 bad far", x.dead(Integer.MAX_VALUE, true), -1);
    due.is("11 bad far below", x.dead(Integer.MIN_VALUE, true), -1);
    x.mirror(4, 1);
    due.is("11 one part alone", x.dead(1, true), -1);
  }

  private static void deadJoins() {
    StillStars x = new StillStars();
    x.mirror(3, 4);
    slopes(x, 60, 70, 80);
    numbers(x, new int[] {1, 2, 3, 0}, new int[] {0, 0, 0, 7}, new int[] {0, 0, 0, 0});
    x.dead(1, true);
    x.dead(2, true);
    due.is("12 seen of live ones", x.seen(), 9);
    isBend("13 three as one", x, 0, 10, 1);
    isBend("13 a dead one", x, 1, 10, 1);
    isBend("13 a dead one behind it", x, 2, 10, 1);
    isBend("13 a live one", x, 3, 10, 1);
    due.is("14 whole of a dead one", x.whole(2), 10);
    x.table(0, 1, -4);
    due.is("12 columns that cancel out", x.seen(), 8);
    isBend("13 dead behind one not seen", x, 2, 0, 1);
    x.dead(2, false);
    due.is("12 not dead again", x.seen(), 9);
    // -3 a = 60 by parts 0 and 1; part 2 is a multiple of them
    isBend("13 part 0", x, 0, -20, 1);
    isBend("13 part 1", x, 1, -20, 1);
    isBend("13 part 2 is not seen", x, 2, 0, 1);
    x.dead(3, true);
    due.is("12 part 2 with part 3", x.seen(), 5);
    // part 2 has (3, 7, 0): 7 b = 70, 3 b - 3 a = 60
    isBend("13 part 2 with 3", x, 2, 10, 1);
    isBend("13 part 3 follows 2", x, 3, 10, 1);
    isBend("13 part 0 now", x, 0, -10, 1);
    x.table(1, 2, 4);
    // 11 b = 70, 3 b - 3 a = 60
    isBend("13 a fraction", x, 2, 70, 11);
    isBend("13 a dead one's fraction", x, 3, 70, 11);
    isBend("13 and part 0's", x, 1, -150, 11);
  }

  private static void seen() {
    StillStars x = new StillStars();
    due.is("12 nothing", x.seen(), 0);
    x.mirror(3, 5);
    slopes(x, 1, 1, 1);
    due.is("12 an empty table", x.seen(), 0);
    numbers(x, new int[] {0, 2, -4, 1, 1}, new int[] {0, 4, -8, 0, 1}, new int[] {0, 6, -12 + 3, 0, 1});
    due.is("12 not 0, 1, 2, 3, no fourth", x.seen(), 14);
    x.table(2, 2, 9);
    x.table(0, 2, 3);
    x.table(1, 2, 6);
    due.is("12 a multiple by a fraction", x.seen(), 26);
    x.mirror(8, 5);
    slopes(x, 0, 0, 0, 0, 0, 0, 0, 0);
    for (int p = 0; p < 5; p++) {
      x.table(p + 3, p, 1);
    }
    due.is("12 all five", x.seen(), 31);
    x.table(3, 4, 1);
    x.table(7, 4, 0);
    due.is("12 the last like the first", x.seen(), 15);
    x.dead(1, true);
    due.is("12 the first has another column", x.seen(), 29);
  }

  private static void seenIsWithoutLost() {
    StillStars x = new StillStars();
    slopes(x, 10, 20, 30, 40);
    numbers(x, new int[] {1, 1}, new int[] {1, 1}, new int[] {1, 1}, new int[] {1, 2});
    due.is("12 both", x.seen(), 3);
    Due.shine(x, 3, 0);
    x.light(3, 0, 0);
    due.is("12 a lost spot does not tell", x.seen(), 1);
    isBend("13 without the lost one", x, 0, 20, 1);
    x.set(1, 4000);
    due.is("12 all lost", x.seen(), 0);
    isBend("13 all lost", x, 0, 0, 1);
    due.is("14 all lost", x.whole(1), 0);
  }

  private static void bend() {
    StillStars x = new StillStars();
    x.mirror(2, 1);
    slopes(x, 5, -10);
    numbers(x, new int[] {2}, new int[] {1});
    isBend("13 nothing is left to bend", x, 0, 0, 1);
    slopes(x, 7, 3);
    isBend("13 17 by 5", x, 0, 17, 5);
    slopes(x, -7, -3);
    isBend("13 -17 by 5", x, 0, -17, 5);
    slopes(x, 6, 3);
    isBend("13 15 by 5, in lowest terms", x, 0, 3, 1);
    numbers(x, new int[] {-4}, new int[] {-4});
    slopes(x, 3, -1);
    isBend("13 -8 by 32", x, 0, -1, 4);
    due.is("13 bad part", x.bend(1, 0), FAR_OFF);
    due.is("13 bad part -1", x.bend(-1, 0), FAR_OFF);
    due.is("13 bad what", x.bend(0, 2), FAR_OFF);
    due.is("13 bad what -1", x.bend(0, -1), FAR_OFF);
    due.is("13 bad far", x.bend(Integer.MIN_VALUE, Integer.MAX_VALUE), FAR_OFF);
  }

  /** The greatest determinants: rows of 9 and -9 that stand upright on one another. */
  private static void bendGreatest() {
    StillStars x = new StillStars();
    x.mirror(8, 5);
    slopes(x, 3000, -3000, 3000, -2999, 2998, -3000, 2997, -3000);
    for (int s = 0; s < 8; s++) {
      for (int p = 0; p < 5; p++) {
        x.table(s, p, Integer.bitCount(s & (p + 1)) % 2 == 0 ? 9 : -9);
      }
    }
    due.is("12 upright", x.seen(), 31);
    int[] slope = {3000, -3000, 3000, -2999, 2998, -3000, 2997, -3000};
    for (int p = 0; p < 5; p++) {
      long above = 0;
      for (int s = 0; s < 8; s++) {
        above += (Integer.bitCount(s & (p + 1)) % 2 == 0 ? 9 : -9) * (long) slope[s];
      }
      long below = 648;
      for (long d = 648; d > 1; d--) {
        if (above % d == 0 && below % d == 0) {
          above /= d;
          below /= d;
        }
      }
      isBend("13 upright", x, p, above, below);
    }
  }

  private static void whole() {
    StillStars x = new StillStars();
    x.mirror(1, 1);
    x.table(0, 0, 2);
    int[][] halves = {{1, 1}, {-1, -1}, {3, 2}, {-3, -2}, {2, 1}, {0, 0}, {5, 3}};
    for (int[] h : halves) {
      slopes(x, h[0]);
      due.is("14 half of " + h[0], x.whole(0), h[1]);
    }
    x.table(0, 0, 3);
    int[][] thirds = {{1, 0}, {-1, 0}, {2, 1}, {-2, -1}, {4, 1}, {-4, -1}, {3000, 1000}};
    for (int[] t : thirds) {
      slopes(x, t[0]);
      due.is("14 a third of " + t[0], x.whole(0), t[1]);
    }
    due.is("14 bad 1", x.whole(1), OFF);
    due.is("14 bad -1", x.whole(-1), OFF);
    due.is("14 bad far", x.whole(Integer.MIN_VALUE), OFF);
    // two columns that are nearly alike bend far against one another
    x.mirror(2, 2);
    slopes(x, 3000, -3000);
    numbers(x, new int[] {9, 8}, new int[] {8, 7});
    due.is("13 far", x.bend(0, 0), -45000);
    due.is("14 held below", x.whole(0), -9999);
    due.is("14 held above", x.whole(1), 9999);
  }

  private static void nearest() {
    StillStars x = new StillStars();
    x.mirror(3, 3);
    numbers(x, new int[] {1, 0, 0}, new int[] {0, 1, 0}, new int[] {0, 0, 1});
    slopes(x, 10, -10, 20);
    int[] within = {10, -10, 20};
    for (int p = 0; p < 3; p++) {
      due.is("15 allowed as it is " + p, x.nearest(p), within[p]);
    }
    due.is("16 nothing off", x.off(), 0);
    x.set(4, 15);
    due.is("16 limit", x.off(), 25);
    due.is("15 limit", x.nearest(2), 15);
    x.set(5, 0);
    // all alike: 20 by 3 is nearest to 7
    for (int p = 0; p < 3; p++) {
      due.is("15 all alike " + p, x.nearest(p), 7);
    }
    due.is("16 all alike", x.off(), 9 + 289 + 169);
    x.set(5, 30);
    x.set(4, 40);
    x.dead(2, true);
    // columns (1, 0, 0), (0, 1, 1): bends 10, 5, 5
    due.is("15 dead like the one ahead", x.nearest(2), 5);
    due.is("15 bad 3", x.nearest(3), OFF);
    due.is("15 bad -1", x.nearest(-1), OFF);
    due.is("15 bad far", x.nearest(Integer.MAX_VALUE), OFF);
  }

  private static void nearestTies() {
    StillStars x = new StillStars();
    x.mirror(2, 2);
    numbers(x, new int[] {1, 0}, new int[] {0, 1});
    slopes(x, 5, 10);
    x.set(5, 0);
    due.is("15 of 7 and 8 the less", x.nearest(0), 7);
    due.is("15 the second alike", x.nearest(1), 7);
    due.is("16 of 7", x.off(), 13);
    x.set(5, 2);
    // (6, 8) 5, (7, 9) 5: the first counts most
    due.is("15 of (6, 8) and (7, 9)", x.nearest(0), 6);
    due.is("15 the second of them", x.nearest(1), 8);
    slopes(x, -5, -20);
    due.is("16 further below 0", x.off(), 85);
    slopes(x, -5, -10);
    due.is("15 of (-7, -9) and (-6, -8)", x.nearest(0), -7);
    due.is("15 below 0", x.nearest(1), -9);
    due.is("16 below 0", x.off(), 5);
    x.set(4, 60);
    x.set(5, 120);
    slopes(x, 3000, -3000);
    due.is("15 the widest", x.nearest(0), 60);
    due.is("15 the widest, below", x.nearest(1), -60);
    due.is("16 the widest", x.off(), 2L * 2940 * 2940);
    x.set(5, 119);
    due.is("15 of (59, -60) and (60, -59)", x.nearest(0), 59);
    due.is("15 and the second", x.nearest(1), -60);
  }

  private static void nearestWidest() {
    StillStars x = new StillStars();
    x.mirror(8, 5);
    x.set(4, 60);
    x.set(5, 120);
    int[] slopes = {3000, -3000, 60, -60, 61};
    int[] row = {60, -60, 60, -60, 60};
    slopes(x, slopes);
    for (int p = 0; p < 5; p++) {
      x.table(p, p, 1);
    }
    due.is("16 five parts", x.off(), 2L * 2940 * 2940 + 1);
    for (int p = 0; p < 5; p++) {
      due.is("15 five parts " + p, x.nearest(p), row[p]);
    }
  }

  /** Looks at every row in order, as the document tells it. */
  private static void nearestByEveryRow() {
    Random random = new Random(15);
    for (int round = 0; round < 150; round++) {
      StillStars x = new StillStars();
      int a = 1 + random.nextInt(5);
      int limit = 1 + random.nextInt(4);
      int near = random.nextInt(6);
      x.mirror(8, a);
      x.set(4, limit);
      x.set(5, near);
      boolean[] dead = new boolean[a];
      int[] slopes = new int[8];
      for (int s = 0; s < 8; s++) {
        slopes[s] = random.nextInt(19) - 9;
      }
      slopes(x, slopes);
      for (int p = 0; p < a; p++) {
        x.table(p, p, 1);
        dead[p] = p > 0 && random.nextInt(4) == 0;
        x.dead(p, dead[p]);
      }
      int[] whole = new int[a];
      for (int p = 0; p < a; p++) {
        whole[p] = x.whole(p);
      }
      int[] best = null;
      long least = Long.MAX_VALUE;
      int rows = (int) Math.round(Math.pow(2 * limit + 1, a));
      for (int n = 0; n < rows; n++) {
        int[] row = new int[a];
        int left = n;
        for (int p = a - 1; p >= 0; p--) {
          row[p] = left % (2 * limit + 1) - limit;
          left /= 2 * limit + 1;
        }
        boolean allowed = true;
        long off = 0;
        for (int p = 0; p < a; p++) {
          allowed &= p == 0 || (dead[p] ? row[p] == row[p - 1] : Math.abs(row[p] - row[p - 1]) <= near);
          off += (long) (row[p] - whole[p]) * (row[p] - whole[p]);
        }
        if (allowed && off < least) {
          least = off;
          best = row;
        }
      }
      for (int p = 0; p < a; p++) {
        due.is("15 round " + round + " part " + p, x.nearest(p), best[p]);
      }
      due.is("16 round " + round, x.off(), least);
    }
  }
}
