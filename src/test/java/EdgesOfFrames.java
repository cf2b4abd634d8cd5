import java.util.Arrays;

/** Edges of the terms' third part, and of promises 17 to 26: the loop. */
final class EdgesOfFrames extends Edges {
  static void run() {
    unitsAndTip();
    states();
    few();
    seek();
    held();
    heldByOthers();
    heldByGain();
    heldToARow();
    lost();
    lostToOpen();
    lostEachTimeAnew();
    shedOfAll();
    logKeeps();
    loopNumbers();
    steadyWithin();
    steadyNotOnTheRing();
    steadyNearTheRing();
    steadyNotZero();
    start();
    startNot();
    stop();
    frames();
    framesBad();
    state();
    stateBad();
    units();
    unitsBad();
    shed();
    log();
    logBad();
    loop();
    loopRefuses();
    steady();
    steadyBad();
    unsteady();
    unsteadyRefuses();
  }

  /** A dark BOARD is LOST: n is 1, and FEW tells whether that is few; nothing is bent. */
  private static StillStars inTheDark() {
    return mirror(1, 1);
  }

  /** FRAMES one by one: g with n at FEW, b with n above it. The STATES behind them, as digits. */
  private static String statesOf(StillStars x, String frames) {
    StringBuilder states = new StringBuilder();
    for (char c : frames.toCharArray()) {
      x.set(2, c == 'g' ? 1 : 0);
      states.append(x.frames(1));
    }
    return states.toString();
  }

  private static void areStates(StillStars x, String frames, String due) {
    String states = statesOf(x, frames);
    is("FRAMES " + frames + " made " + states + ", due is " + due, states.equals(due) ? 1 : 0, 1);
  }

  /** One SPOT with a SLOPE that tells of one PART, in HELD. */
  private static StillStars heldWith(int slope) {
    StillStars x = mirror(1, 1);
    x.table(0, 0, 1);
    slope(x, 0, slope);
    x.start();
    is("held", x.frames(3), 2);
    return x;
  }

  /** PARTS that nothing bends, in HELD, with these UNITS. */
  private static StillStars heldAt(int... units) {
    StillStars x = mirror(1, units.length);
    x.start();
    is("held", x.frames(3), 2);
    for (int p = 0; p < units.length; p++) {
      x.units(p, units[p]);
    }
    return x;
  }

  private static void areUnits(String call, StillStars x, int... units) {
    for (int p = 0; p < units.length; p++) {
      is(call + " units " + p, x.state(p), units[p]);
    }
  }

  // ---- terms

  private static void unitsAndTip() {
    about(0, "THE MIRROR has UNITS of each PART (0 at first), a TIP (0 at first).");
    for (int a = 1; a <= 5; a++) {
      StillStars x = mirror(8, a);
      areUnits("at first", x, new int[a]);
      is("tip at first", x.state(a), 0);
    }
  }

  private static void states() {
    about(0, "STATES: 0 OPEN (at first), 1 SEEK, 2 HELD, 3 LOST.");
    StillStars x = inTheDark();
    is("OPEN", x.state(2), 0);
    is("OPEN still", x.frames(100), 0);
    x.start();
    is("SEEK", x.state(2), 1);
    areStates(x, "gggb", "1123");
    is("LOST", x.state(2), 3);
    areStates(x, "ggggg", "33332");
    is("HELD", x.state(2), 2);
    is("HELD still", x.frames(100), 2);
    x.stop();
    areStates(x, "gbgggggbbbbb", "000000000000");
  }

  private static void few() {
    about(0, "A FRAME: n is how many SPOTS are LOST, FEW (0 .. 8; 1 at first).");
    for (int few = 0; few <= 8; few++) {
      for (int n = 0; n <= 8; n++) {
        StillStars x = mirror(8, 1);
        if (few != 1) {
          x.set(2, few);
        }
        for (int s = n; s < 8; s++) {
          x.light(s, 5, 70);
        }
        x.start();
        is("FEW " + few + ", n " + n, x.frames(3), n <= few ? 2 : 1);
        is("n", x.log(0, 1), n);
      }
    }
    StillStars x = mirror(8, 1);
    for (int s = 0; s < 8; s++) {
      x.light(s, 5, 69);
    }
    x.frames(1);
    is("all just LOST", x.log(0, 1), 8);
    x.light(3, 5, 70);
    x.frames(1);
    is("one just not", x.log(0, 1), 7);
  }

  private static void seek() {
    about(0, "In SEEK: if n is FEW or less, for the third FRAME one behind the other, it is HELD from then on.");
    String[][] due = {{"ggg", "112"}, {"bggg", "1112"}, {"gbggg", "11112"}, {"ggbggg", "111112"}, {"ggbggbggg", "111111112"},
      {"bbbbbbbbbbbbbbbbbbbbbbbbb", "1111111111111111111111111"}, {"gbgbgbgbggbggg", "11111111111112"}};
    for (String[] d : due) {
      StillStars x = inTheDark();
      x.start();
      areStates(x, d[0], d[1]);
    }
    StillStars x = mirror(1, 1);
    x.table(0, 0, 1);
    slope(x, 0, 100);
    x.frames(2);
    x.start();
    is("FRAMES in OPEN are none of SEEK's", x.frames(2), 1);
    is("the third", x.frames(1), 2);
    is("nothing is bent in it", x.state(0), 0);
    is("from then on", x.frames(1), 2);
    is("but in the next", x.state(0), -40);
  }

  private static void held() {
    about(0, "In HELD: if n is above FEW, it is LOST;");
    StillStars x = mirror(3, 1);
    x.table(0, 0, 1);
    slopes(x, 20, 0, 0);
    x.start();
    x.frames(3);
    is("n 0", x.frames(1), 2);
    x.light(1, 0, 0);
    is("n 1 is FEW", x.frames(1), 2);
    is("bent twice", x.state(0), -20);
    x.light(2, 0, 0);
    is("n 2 is above it", x.frames(1), 3);
    is("nothing is bent in it", x.state(0), -20);
    is("n is told", x.log(0, 1), 2);
  }

  private static void heldByOthers() {
    about(0, "else UNITS become the row NEAREST to:");
    StillStars x = mirror(2, 1);
    x.table(0, 0, 1);
    x.table(1, 0, 1);
    slopes(x, 3000, 10);
    x.start();
    x.frames(3);
    x.light(0, 3, 0);
    is("a LOST one of FEW", x.frames(1), 2);
    is("does not tell", x.state(0), -5);
    x.set(2, 2);
    x.light(1, 12, 0);
    is("all LOST are FEW", x.frames(1), 2);
    is("nothing is bent then", x.state(0), -5);
    StillStars y = heldWith(0);
    y.units(0, 40);
    y.frames(100);
    is("no SLOPE: UNITS stay", y.state(0), 40);
    y.set(4, 39);
    y.frames(1);
    is("but for a LIMIT", y.state(0), 39);
  }

  private static void heldByGain() {
    about(0, "each UNITS less GAIN (0 .. 200; 50 at first) times WHOLE by 100.");
    // GAIN, WHOLE, UNITS before, UNITS behind
    int[][] due = {{50, 1, 0, 0}, {50, 2, 0, -1}, {50, 3, 0, -1}, {50, -1, 0, 0}, {50, -2, 0, 1}, {50, -3, 0, 1},
      {50, -1, 5, 5}, {50, 1, -5, -5}, {50, 1, 5, 5}, {50, 3, 5, 4}, {50, -3, -5, -4}, {0, 3000, 7, 7}, {0, -3000, -7, -7},
      {1, 99, 3, 3}, {1, 100, 3, 2}, {1, 199, 3, 2}, {1, -99, 3, 3}, {1, -100, 3, 4}, {1, 3000, 3, -27}, {100, 1, 0, -1},
      {100, -40, 0, 40}, {100, -41, 0, 40}, {100, 40, 0, -40}, {100, 80, 40, -40}, {100, 81, 40, -40}, {99, 1, 0, 0},
      {101, 1, 0, -1}, {199, 1, 0, -1}, {200, 1, 0, -2}, {200, -1, 0, 2}, {200, 3000, 40, -40}, {200, -3000, -40, 40}};
    for (int[] d : due) {
      StillStars x = heldWith(d[1]);
      if (d[0] != 50) {
        x.set(3, d[0]);
      }
      x.units(0, d[2]);
      x.frames(1);
      is("GAIN " + d[0] + " WHOLE " + d[1] + " from " + d[2], x.state(0), d[3]);
    }
    StillStars x = mirror(2, 2);
    columns(x, new int[] {9, 8}, new int[] {8, 7});
    slopes(x, 3000, -3000);
    x.set(3, 200);
    x.start();
    x.frames(4);
    // WHOLE -9999 and 9999: the wish is 19998, -19998
    areUnits("the farthest wish", x, 15, -15);
    x.set(4, 60);
    x.set(5, 120);
    x.frames(1);
    areUnits("the farthest row", x, 60, -60);
    StillStars half = mirror(1, 1);
    half.table(0, 0, 2);
    slope(half, 0, 3);
    half.start();
    half.set(3, 100);
    half.frames(4);
    is("WHOLE 2, not 3 by 2", half.state(0), -2);
  }

  private static void heldToARow() {
    about(0, "UNITS become the row NEAREST to");
    StillStars x = heldAt(40, -40);
    x.frames(1);
    areUnits("NEAR 30", x, 15, -15);
    x.frames(50);
    areUnits("and stay", x, 15, -15);
    StillStars y = heldAt(0, 1);
    y.set(5, 0);
    y.frames(1);
    areUnits("of like ones the least", y, 0, 0);
    StillStars z = heldAt(-40, 40, -40, 40, -40);
    z.set(5, 0);
    z.frames(1);
    // -40 by 5
    areUnits("all alike", z, -8, -8, -8, -8, -8);
    StillStars u = heldAt(40, 40, -40);
    u.shed();
    // shed 13: 27, 27, -53
    areUnits("beyond LIMIT by shed", u, 27, 27, -53);
    u.frames(1);
    // of 27, 27, -53: within -40 .. 40, each 30 from the next
    areUnits("allowed again", u, rowNear(new int[] {27, 27, -53}, 40, 30));
  }

  /** Looks at every row. */
  private static int[] rowNear(int[] wish, int limit, int near) {
    int[] best = null;
    long least = Long.MAX_VALUE;
    for (int a = -limit; a <= limit; a++) {
      for (int b = -limit; b <= limit; b++) {
        for (int c = -limit; c <= limit; c++) {
          long off = square(a - wish[0]) + square(b - wish[1]) + square(c - wish[2]);
          if (Math.abs(a - b) <= near && Math.abs(b - c) <= near && off < least) {
            least = off;
            best = new int[] {a, b, c};
          }
        }
      }
    }
    return best;
  }

  private static long square(long v) {
    return v * v;
  }

  private static String times(int n, String c) {
    return c.repeat(n);
  }

  /** In LOST, no FRAME having found it so yet. */
  private static StillStars lostInTheDark() {
    StillStars x = inTheDark();
    x.start();
    areStates(x, "gggb", "1123");
    return x;
  }

  private static void lost() {
    about(0, "In LOST: if n is FEW or less, for the fifth FRAME one behind the other, it is HELD;");
    String[][] due = {{"ggggg", "33332"}, {"bggggg", "333332"}, {"ggggbggggg", "3333333332"}, {"gbgbggggg", "333333332"},
      {"ggggbggggbggggg", times(14, "3") + "2"}, {"ggggg" + "b" + "ggggg", "33332" + "3" + "33332"}};
    for (String[] d : due) {
      areStates(lostInTheDark(), d[0], d[1]);
    }
    StillStars x = heldWith(10);
    x.frames(1);
    x.set(2, 0);
    x.light(0, 3, 0);
    is("LOST", x.frames(1), 3);
    x.light(0, 3, 255);
    is("the fifth", x.frames(5), 2);
    is("nothing is bent through it", x.state(0), -5);
    is("but in the next", x.frames(1), 2);
    is("by 5", x.state(0), -10);
  }

  private static void lostToOpen() {
    about(0, "else, in the 20th FRAME that found it LOST, it is OPEN, and all UNITS are 0.");
    String[][] due = {{times(20, "b"), times(19, "3") + "0"}, {times(21, "b"), times(19, "3") + "00"},
      {times(15, "b") + "ggggg", times(19, "3") + "2"}, {times(16, "b") + "gggg", times(19, "3") + "0"},
      {times(16, "b") + "ggggg", times(19, "3") + "00"}, {times(16, "b") + "gggb", times(19, "3") + "0"},
      {times(4, "ggggb"), times(19, "3") + "0"}, {"gggg" + times(16, "b"), times(19, "3") + "0"},
      {times(19, "b") + "g", times(19, "3") + "0"}, {times(14, "b") + "ggggg" + "b", times(18, "3") + "23"}};
    for (String[] d : due) {
      areStates(lostInTheDark(), d[0], d[1]);
    }
    StillStars x = heldAt(12, -11, 10, 9, -8);
    x.shed();
    int tip = x.state(5);
    is("12 by 5", tip, 2);
    x.set(2, 0);
    is("LOST", x.frames(1), 3);
    is("19 that found it so", x.frames(19), 3);
    areUnits("they stay", x, 10, -13, 8, 7, -10);
    is("the 20th", x.frames(1), 0);
    areUnits("all are 0", x, 0, 0, 0, 0, 0);
    is("TIP stays", x.state(5), tip);
    is("the LOG: OPEN", x.log(0, 0), 0);
    is("the LOG: no UNITS", x.log(0, 2), 0);
    is("the one ahead: LOST", x.log(1, 0), 3);
    is("the one ahead: UNITS", x.log(1, 2), 2);
    is("FRAMES", x.state(7), 3 + 21);
    is("OPEN: it may start", x.start(), 1);
  }

  private static void lostEachTimeAnew() {
    about(0, "in the 20th FRAME that found it LOST");
    StillStars x = lostInTheDark();
    areStates(x, times(14, "b") + "ggggg", times(18, "3") + "2");
    areStates(x, "b" + times(20, "b"), times(20, "3") + "0");
    StillStars y = lostInTheDark();
    areStates(y, times(19, "b"), times(19, "3"));
    is("stop", y.stop(), 3);
    y.start();
    areStates(y, "gggb", "1123");
    areStates(y, times(20, "b"), times(19, "3") + "0");
    StillStars z = lostInTheDark();
    areStates(z, "gggg", "3333");
    z.stop();
    z.start();
    areStates(z, "gggb", "1123");
    areStates(z, "ggggg", "33332");
    StillStars all = inTheDark();
    all.start();
    all.frames(3);
    all.set(2, 0);
    is("in one call: one that finds it HELD, 20 that find it LOST", all.frames(20), 3);
    is("the last of them", all.frames(1), 0);
    all.start();
    is("a hundred bad ones in SEEK", all.frames(100), 1);
    all.set(2, 1);
    is("three good ones, and ten more", all.frames(13), 2);
    all.set(2, 0);
    is("a hundred bad ones in HELD", all.frames(100), 0);
  }

  private static void shedOfAll() {
    about(0, "SHED: the sum of UNITS by A is added to TIP, and taken from each.");
    int[][] units = {{40}, {-40}, {1}, {1, 0}, {-1, 0}, {1, 1}, {2, 1}, {-2, -1}, {40, -40}, {1, 1, 0}, {-1, -1, 0}, {1, 1, 1},
      {40, 40, 40, 40, 40}, {-40, -40, -40, -40, -40}, {4, 0, 0, 0, 0}, {5, 0, 0, 0, 0}, {-4, 0, 0, 0, 0}, {0, 0, 0, 0, -5},
      {40, 40, 40, 40, -40}, {9, 0, 0, 0, 0}, {-9, 0, 0, 0, 0}};
    int[] shares = {40, -40, 1, 0, 0, 1, 1, -1, 0, 0, 0, 1, 40, -40, 0, 1, 0, -1, 24, 1, -1};
    for (int i = 0; i < units.length; i++) {
      int a = units[i].length;
      StillStars x = mirror(1, a);
      for (int p = 0; p < a; p++) {
        x.units(p, units[i][p]);
      }
      String of = "shed of " + Arrays.toString(units[i]);
      is(of, x.shed(), shares[i]);
      is(of + " tip", x.state(a), shares[i]);
      for (int p = 0; p < a; p++) {
        is(of + " part " + p, x.state(p), units[i][p] - shares[i]);
      }
    }
    StillStars x = mirror(1, 2);
    x.set(4, 60);
    for (int i = 1; i <= 100; i++) {
      x.units(0, 60);
      x.units(1, 60);
      is("again", x.shed(), 60);
      is("TIP has no LIMIT", x.state(2), 60 * i);
    }
    x.units(0, -60);
    x.units(1, -60);
    is("back", x.shed(), -60);
    is("TIP goes back", x.state(2), 60 * 99);
    StillStars dead = mirror(1, 2);
    dead.dead(1, true);
    dead.units(0, 4);
    dead.units(1, 1);
    is("a DEAD one counts", dead.shed(), 2);
    areUnits("taken from it too", dead, 2, -1);
  }

  private static void logKeeps() {
    about(0, "THE LOG keeps the latest 30 FRAMES: STATE behind it, n, the sum of UNITS.");
    for (int done : new int[] {0, 1, 2, 29, 30, 31, 59, 60, 61, 100}) {
      StillStars x = new StillStars();
      for (int i = 1; i <= done; i++) {
        x.units(0, i % 41);
        x.frames(1);
      }
      for (int i = 0; i < 32; i++) {
        boolean kept = i < Math.min(30, done);
        is("after " + done + ": STATE of " + i, x.log(i, 0), kept ? 0 : BAD_FAR);
        is("after " + done + ": n of " + i, x.log(i, 1), kept ? 4 : BAD_FAR);
        is("after " + done + ": UNITS of " + i, x.log(i, 2), kept ? (done - i) % 41 : BAD_FAR);
      }
    }
    StillStars x = heldAt(40, 40, 40, 40, 40);
    is("the STATE behind it", x.log(0, 0), 2);
    is("UNITS of then", x.log(0, 2), 0);
    x.frames(1);
    is("the most", x.log(0, 2), 200);
    x.set(4, 60);
    for (int p = 0; p < 5; p++) {
      x.units(p, -60);
    }
    x.stop();
    x.frames(1);
    is("the least", x.log(0, 2), -300);
    is("STATE OPEN", x.log(0, 0), 0);
    is("the one ahead", x.log(1, 0), 2);
    x.shed();
    is("shed changes no line", x.log(0, 2), -300);
    x.frames(100);
    is("a hundred at once", x.log(29, 2), 0);
    is("30 are kept", x.log(30, 2), BAD_FAR);
  }

  /** D, and N, as calls tell them. */
  private static StillStars loopOf(int[] d, int[] n) {
    StillStars x = new StillStars();
    Due.row(x, 0, INTS, d);
    Due.row(x, 1, INTS, n);
    is("D", x.loop(0, 0, INTS, 0, d.length), d.length);
    is("N", x.loop(1, 1, INTS, 0, n.length), n.length);
    return x;
  }

  private static int steadyOf(int... d) {
    return loopOf(d, new int[] {0}).steady(0);
  }

  private static void loopNumbers() {
    about(0, "A LOOP has two polynomials of z, D and N, each of 1 to 5 numbers (-50 .. 50), from z to the power 0 on"
        + " (D and N: 1 at first).");
    StillStars first = new StillStars();
    is("D is 1 at first", first.steady(0), 1);
    Due.row(first, 0, INTS, -1);
    first.loop(1, 0, INTS, 0, 1);
    is("100 - g", first.unsteady(0, 100), 100);
    StillStars second = new StillStars();
    Due.row(second, 0, INTS, -1);
    second.loop(0, 0, INTS, 0, 1);
    is("N is 1 at first: g - 100", second.unsteady(0, 100), 100);
    is("1 + 2 z", steadyOf(1, 2), 1);
    is("2 + z", steadyOf(2, 1), 0);
    for (int n = 1; n <= 5; n++) {
      int[] up = new int[n];
      int[] down = new int[n];
      up[n - 1] = 50;
      up[0] = n == 1 ? 50 : 49;
      down[0] = -50;
      down[n - 1] = n == 1 ? -50 : 49;
      is("49 + 50 z^" + (n - 1), steadyOf(up), 1);
      is("-50 + 49 z^" + (n - 1), steadyOf(down), n == 1 ? 1 : 0);
    }
  }

  private static void steadyWithin() {
    about(0, "It is STEADY at a gain g (0 .. 100), if 100 D + g N is not 0, and all its zeros are within the ring of size 1"
        + " (not on it).");
    int[][] within = {{1}, {-50}, {0, 1}, {0, 0, 0, 0, 50}, {49, 50}, {-49, 50}, {49, -50}, {49, 0, 50}, {-49, 0, 50},
      {0, 49, 50}, {0, 0, 0, 49, 50}, {49, 0, 0, 50}, {49, 0, 0, 0, -50}, {1, 2, 3, 4, 5}, {1, -4, 6, -4, 50},
      {10, 20, 30, 40, 50}, {46, 47, 48, 49, 50}, {1, 2, 0, 0, 0}, {7, 0, 0, 0, 0}, {0, 5, 0}, {1, 4, 4}, {25, -49, 25 + 1}};
    int[][] beyond = {{50, 49}, {-50, 49}, {50, 0, 49}, {0, 50, 49}, {0, 0, 0, 50, 49}, {50, 0, 0, 0, 49}, {5, 4, 3, 2, 1},
      {50, 49, 48, 47, 46}, {2, 1, 0, 0, 0}, {4, 4, 1}, {2, -5, 2}, {2, 5, 2, 0, 0}, {0, 2, -5, 2, 0}, {1, 0, 0, 50, 1},
      {0, 0, 1, -50, 1}, {26, -49, 25}};
    for (int[] d : within) {
      is("within " + Arrays.toString(d), steadyOf(d), 1);
    }
    for (int[] d : beyond) {
      is("beyond " + Arrays.toString(d), steadyOf(d), 0);
    }
  }

  private static void steadyNotOnTheRing() {
    about(0, "(not on it).");
    int[][] on = {{1, 1}, {-1, 1}, {50, -50}, {1, 0, 1}, {-1, 0, 1}, {1, 1, 1}, {1, -1, 1}, {1, 2, 1}, {1, -2, 1}, {0, 1, 1},
      {0, -1, 1}, {0, 0, 0, 1, -1}, {1, 0, 0, 1}, {-1, 0, 0, 0, 1}, {1, 0, 0, 0, 1}, {1, 1, 1, 1}, {1, 1, 1, 1, 1},
      {1, -4, 6, -4, 1}, {1, 4, 6, 4, 1}, {1, 0, 2, 0, 1}, {0, 1, 0, 1}, {0, 0, 1, 1, 1}, {1, 1, 0, 0, 0}, {-1, -1, 2},
      {1, -3, 2}, {1, 2, 2, 2, 1}, {2, -1, 2}, {1, 3, 4, 2}, {1, 0, 5, 0, 4}};
    for (int[] d : on) {
      is("on it " + Arrays.toString(d), steadyOf(d), 0);
    }
  }

  private static void steadyNearTheRing() {
    about(0, "all its zeros are within the ring of size 1");
    // on the ring by D, and a little within or beyond it by 1 of gain
    int[][][] due = {{{-50, 0, 0, 0, 50}, {1}, {1}}, {{-50, 0, 0, 0, 50}, {-1}, {0}}, {{50, 0, 0, 0, 50}, {-1}, {1}},
      {{50, 0, 0, 0, 50}, {1}, {0}}, {{50, -50, 50}, {-1}, {1}}, {{50, -50, 50}, {1}, {0}}, {{0, 50, 50}, {0, -1}, {1}},
      {{0, 50, 50}, {0, 1}, {0}}, {{0, 50, 50}, {1}, {1}}, {{0, 50, 50}, {-1}, {0}}, {{50, 50}, {-1}, {1}}, {{50, 50}, {1}, {0}},
      {{50, 50, 50, 50, 50}, {0, 0, 0, 0, 1}, {1}}, {{50, 50, 50, 50, 50}, {0, 0, 0, 0, -1}, {0}},
      {{0, 0, 0, 50, 50}, {0, 0, 0, -1}, {1}}, {{0, 0, 0, 50, 50}, {0, 0, 0, 1}, {0}},
      {{-50, 0, 0, 50}, {1}, {1}}, {{-50, 0, 0, 50}, {-1}, {0}}, {{-50, 0, 0, 50}, {0, 0, 0, 1}, {1}}};
    for (int[][] d : due) {
      StillStars x = loopOf(d[0], d[1]);
      String of = Arrays.toString(d[0]) + " and " + Arrays.toString(d[1]);
      is("on it, gain 0: " + of, x.steady(0), 0);
      is("near it, gain 1: " + of, x.steady(1), d[2][0]);
    }
  }

  private static void steadyNotZero() {
    about(0, "if 100 D + g N is not 0");
    StillStars none = loopOf(new int[] {0, 0, 0}, new int[] {0});
    for (int g = 0; g <= 100; g++) {
      is("0 and 0, gain " + g, none.steady(g), 0);
    }
    StillStars x = loopOf(new int[] {0}, new int[] {7});
    is("D is 0, no gain", x.steady(0), 0);
    is("D is 0, the least gain", x.steady(1), 1);
    StillStars y = loopOf(new int[] {1, 2, 3, 4, 5}, new int[] {-1, -2, -3, -4, -5});
    is("99 of 100 taken away", y.steady(99), 1);
    is("all taken away", y.steady(100), 0);
    StillStars z = loopOf(new int[] {1, 50}, new int[] {0, -50});
    is("the highest power nearly gone: 100 + 50 z", z.steady(99), 0);
    is("98: 100 + 100 z", z.steady(98), 0);
    is("97: 100 + 150 z", z.steady(97), 1);
    is("the highest power gone: a number has no zeros", z.steady(100), 1);
    StillStars w = loopOf(new int[] {-1, 2}, new int[] {2, -4});
    is("all taken away by 50", w.steady(50), 0);
    is("by 49", w.steady(49), 1);
    is("by 51", w.steady(51), 1);
    is("no other gain", w.unsteady(0, 49), NONE);
    is("nor behind it", w.unsteady(51, 100), NONE);
  }

  // ---- promises 17 to 23

  private static void start() {
    about(17, "From OPEN to SEEK: 1.");
    StillStars x = new StillStars();
    x.units(1, 9);
    is("start", x.start(), 1);
    is("SEEK", x.state(3), 1);
    is("UNITS stay", x.state(1), 9);
    is("no FRAME", x.state(4), 0);
    x.stop();
    is("again", x.start(), 1);
  }

  private static void startNot() {
    about(17, "NOT: it is not OPEN.");
    StillStars x = inTheDark();
    x.start();
    is("in SEEK", x.start(), NOT);
    areStates(x, "gg", "11");
    is("in SEEK behind two", x.start(), NOT);
    areStates(x, "g", "2");
    is("in HELD", x.start(), NOT);
    is("HELD still", x.state(2), 2);
    areStates(x, "b" + times(19, "b"), "3" + times(19, "3"));
    is("in LOST", x.start(), NOT);
    areStates(x, "b", "0");
    is("in OPEN", x.start(), 1);
  }

  private static void stop() {
    about(18, "From any STATE to OPEN (UNITS stay): the STATE that it was.");
    String[] frames = {"", "gg", "ggg", "gggb"};
    for (int state = 0; state < 4; state++) {
      StillStars x = inTheDark();
      x.units(0, -40);
      if (state > 0) {
        x.start();
      }
      statesOf(x, frames[state]);
      is("stop", x.stop(), state);
      is("OPEN", x.state(2), 0);
      is("UNITS stay", x.state(0), -40);
      is("FRAMES stay", x.state(3), frames[state].length());
      is("the LOG stays", x.log(0, 1), frames[state].isEmpty() ? BAD_FAR : 1);
      is("again", x.stop(), 0);
      areStates(x, "gggggg", "000000");
      is("UNITS still", x.state(0), -40);
    }
  }

  private static void frames() {
    about(19, "n FRAMES (1 .. 100) with these BOARDS: the STATE behind them.");
    StillStars x = heldWith(2);
    x.set(4, 60);
    is("one", x.frames(1), 2);
    is("bent by 1", x.state(0), -1);
    is("2", x.frames(2), 2);
    is("bent by 3", x.state(0), -3);
    StillStars y = heldWith(-2);
    is("100", y.frames(100), 2);
    is("bent to the LIMIT", y.state(0), 40);
    is("done", y.state(3), 103);
    StillStars z = inTheDark();
    z.start();
    is("through STATES: SEEK, HELD", z.frames(100), 2);
    z.set(2, 0);
    is("through STATES: LOST, OPEN", z.frames(21), 0);
    StillStars w = heldWith(2);
    w.frames(10);
    slope(w, 0, -2);
    w.frames(100);
    is("with the new BOARD", w.state(0), 40);
  }

  private static void framesBad() {
    about(19, "BAD.");
    StillStars x = heldWith(2);
    outside("frames", 1, 100, BAD, x::frames);
    is("none done", x.state(3), 3);
    is("UNITS stay", x.state(0), 0);
  }

  private static void state() {
    about(20, "UNITS of a PART (0 .. A - 1), TIP (A), STATE (A + 1), FRAMES done since mirror() (A + 2).");
    for (int a = 1; a <= 5; a++) {
      StillStars x = mirror(1, a);
      for (int p = 0; p < a; p++) {
        x.units(p, -30);
      }
      x.shed();
      for (int p = 0; p < a; p++) {
        x.units(p, 10 + p);
      }
      x.frames(100);
      x.frames(7);
      x.start();
      for (int p = 0; p < a; p++) {
        is("UNITS " + p + " of " + a, x.state(p), 10 + p);
      }
      is("TIP of " + a, x.state(a), -30);
      is("STATE of " + a, x.state(a + 1), 1);
      is("FRAMES of " + a, x.state(a + 2), 107);
      x.mirror(1, a);
      is("FRAMES since mirror()", x.state(a + 2), 0);
      x.frames(1);
      is("one since", x.state(a + 2), 1);
    }
    StillStars x = new StillStars();
    for (int i = 0; i < 400; i++) {
      x.frames(100);
    }
    is("many FRAMES", x.state(4), 40000);
  }

  private static void stateBad() {
    about(20, "BAD less 10000.");
    for (int a = 1; a <= 5; a++) {
      StillStars x = mirror(1, a);
      outside("state of " + a, 0, a + 2, BAD_FAR, x::state);
    }
  }

  private static void units() {
    about(21, "UNITS of a PART are told: what they were.");
    StillStars x = mirror(1, 5);
    for (int p = 0; p < 5; p++) {
      is("at first " + p, x.units(p, 40), 0);
      is("the most " + p, x.units(p, -40), 40);
      is("the least " + p, x.units(p, p), -40);
    }
    for (int p = 0; p < 5; p++) {
      is("each its own " + p, x.units(p, 0), p);
    }
    x.units(2, 3);
    x.shed();
    x.units(2, 40);
    x.units(3, 40);
    x.units(4, 40);
    x.shed();
    is("beyond LIMIT by shed", x.units(0, 0), -24);
  }

  private static void unitsBad() {
    about(21, "BAD less 10000 (-LIMIT .. LIMIT; NEAR does not matter).");
    for (int limit : new int[] {40, 1, 60}) {
      StillStars x = mirror(1, 3);
      x.set(4, limit);
      outside("units of a PART", 0, 2, BAD_FAR, v -> x.units(v, 1));
      outside("units, LIMIT " + limit, -limit, limit, BAD_FAR, v -> x.units(1, v));
      is("none told", x.units(1, limit), 0);
      is("the most", x.units(1, -limit), limit);
      is("the least", x.units(1, 0), -limit);
    }
    StillStars x = mirror(1, 2);
    x.set(5, 0);
    x.dead(1, true);
    is("NEAR does not matter", x.units(0, 40), 0);
    is("nor does DEAD", x.units(1, -40), 0);
    is("both stand", x.state(0) - x.state(1), 80);
    x.set(4, 1);
    is("UNITS beyond a new LIMIT stand", x.state(0), 40);
    is("but are not told anew", x.units(0, 40), BAD_FAR);
  }

  private static void shed() {
    about(22, "SHED: how much was added to TIP.");
    StillStars x = mirror(1, 3);
    is("nothing", x.shed(), 0);
    x.units(0, 2);
    is("2 by 3", x.shed(), 0);
    is("UNITS stay then", x.state(0), 2);
    x.units(1, 1);
    is("3 by 3", x.shed(), 1);
    areUnits("each one less", x, 1, 0, -1);
    is("0 by 3", x.shed(), 0);
    x.units(1, -3);
    is("-3 by 3", x.shed(), -1);
    areUnits("each one more", x, 2, -2, 0);
    is("TIP", x.state(3), 0);
    is("no FRAME", x.state(5), 0);
    is("not in the LOG", x.log(0, 0), BAD_FAR);
  }

  private static void log() {
    about(23, "Of the i-th latest FRAME (0 the latest): 0 STATE, 1 n, 2 the sum of UNITS.");
    StillStars x = inTheDark();
    x.start();
    String states = statesOf(x, "ggg" + "b" + times(20, "b") + "ggggggg");
    is("31 FRAMES", states.length(), 31);
    for (int i = 0; i < 30; i++) {
      is("STATE of " + i, x.log(i, 0), states.charAt(30 - i) - '0');
      is("n of " + i, x.log(i, 1), 1);
      is("UNITS of " + i, x.log(i, 2), 0);
    }
    StillStars y = mirror(8, 1);
    for (int s = 0; s < 8; s++) {
      y.frames(1);
      y.light(s, 0, 255);
    }
    y.frames(1);
    for (int i = 0; i < 9; i++) {
      is("n was " + i, y.log(i, 1), i);
    }
  }

  private static void logBad() {
    about(23, "BAD less 10000: also none such in THE LOG.");
    StillStars x = new StillStars();
    for (int what = 0; what < 3; what++) {
      is("an empty LOG", x.log(0, what), BAD_FAR);
    }
    x.frames(1);
    is("one", x.log(0, 1), 4);
    is("no second", x.log(1, 1), BAD_FAR);
    outside("log of what", 0, 2, BAD_FAR, v -> x.log(0, v));
    x.frames(100);
    for (int what = 0; what < 3; what++) {
      int one = what;
      outside("log of a FRAME", 0, 29, BAD_FAR, v -> x.log(v, one));
    }
    is("the 30th", x.log(29, 1), 4);
    x.mirror(4, 2);
    is("empty by mirror()", x.log(0, 0), BAD_FAR);
  }

  // ---- promises 24 to 26

  private static void loop() {
    about(24, "D (0), N (1) is n numbers (1 .. 5) of a SHEET, taken as a row of a LANE, from one on: n.");
    for (int lane = 0; lane < 3; lane++) {
      StillStars x = new StillStars();
      alike(x, 3, lane, 40, 0);
      x.item(3, lane, 39, 50);
      x.item(3, lane, 38, -49);
      x.item(3, lane, 35, 49);
      for (int which = 0; which < 2; which++) {
        for (int n = 1; n <= 5; n++) {
          is("the last " + n, x.loop(which, 3, lane, 40 - n, n), n);
          is("one further", x.loop(which, 3, lane, 41 - n, n), INDEX);
        }
      }
      // D and N are 49 - 49 z^3 + 50 z^4
      is("beyond the ring", x.steady(0), 0);
      is("D alone: the last 4, n 4", x.loop(0, 3, lane, 36, 4), 4);
      is("50 z^3 - 49 z^2", x.steady(0), 1);
      is("D of fewer numbers: the others are gone", x.loop(0, 3, lane, 38, 1), 1);
      is("-49 has no zeros", x.steady(0), 1);
      is("N is as it was: -4900 z^3 + 5000 z^4", x.steady(100), 1);
      is("N is as it was: -2450 - 2450 z^3 + 2500 z^4", x.steady(50), 0);
      is("N of 1 number", x.loop(1, 3, lane, 35, 1), 1);
      is("-49 and 49", x.unsteady(0, 100), 100);
    }
  }

  private static void loopRefuses() {
    about(24, "BAD; NULL; CAST; INDEX; NOT: one is not -50 .. 50.");
    for (int lane = 0; lane < 3; lane++) {
      StillStars x = loopOf(new int[] {1, 2}, new int[] {0});
      int row = lane;
      x.sheet(2, row, 7);
      for (int i = 0; i < 7; i++) {
        int[] wrong = {51, -51, row == BYTES ? 127 : row == SHORTS ? 32767 : MAX, row == BYTES ? -128 : row == SHORTS ? -32768 : MIN};
        for (int v : wrong) {
          x.item(2, row, i, v);
          boolean taken = i >= 1 && i <= 5;
          is("item " + i + " is " + v, x.loop(1, 2, row, 1, 5), taken ? NOT : 5);
        }
        for (int v : new int[] {-50, 50, 0}) {
          x.item(2, row, i, v);
          is("item " + i + " is " + v, x.loop(1, 2, row, 1, 5), 5);
        }
      }
      outside("loop of which", 0, 1, BAD, v -> x.loop(v, 2, row, 0, 1));
      outside("loop of a SHEET", 0, 3, BAD, v -> x.loop(0, v, row, 0, 1));
      outside("loop of a LANE", 0, 2, BAD, v -> x.loop(0, 2, v, 0, 1));
      outside("loop of n numbers", 1, 5, BAD, v -> x.loop(0, 2, row, 0, v));
      for (int n = 1; n <= 5; n++) {
        int of = n;
        outside("loop from, n " + n, 0, 7 - n, INDEX, v -> x.loop(1, 2, row, v, of));
      }
      is("no SHEET", x.loop(0, 3, row, 0, 1), NULL);
      is("another LANE", x.loop(0, 2, (row + 1) % 3, 0, 1), CAST);
      is("D stays 1 + 2 z", x.steady(0), 1);
      x.sheet(2, row, 0);
      is("an empty row", x.loop(0, 2, row, 0, 1), INDEX);
    }
  }

  private static void steady() {
    about(25, "Whether THE LOOP is STEADY at a gain: 1, 0.");
    // 100 z + 2 g: within the ring below 50
    StillStars x = loopOf(new int[] {0, 1}, new int[] {2});
    for (int g = 0; g <= 100; g++) {
      is("gain " + g, x.steady(g), g < 50 ? 1 : 0);
    }
    // 100 z - 100 + g
    StillStars y = loopOf(new int[] {-1, 1}, new int[] {1});
    for (int g = 0; g <= 100; g++) {
      is("gain " + g, y.steady(g), g > 0 ? 1 : 0);
    }
  }

  private static void steadyBad() {
    about(25, "BAD.");
    StillStars x = new StillStars();
    outside("steady", 0, 100, BAD, x::steady);
    is("0", x.steady(0), 1);
    is("100", x.steady(100), 1);
  }

  private static void unsteady() {
    about(26, "The first gain from one to another at which it is not STEADY.");
    StillStars x = loopOf(new int[] {0, 1}, new int[] {2});
    int[][] due = {{0, 100, 50}, {0, 50, 50}, {49, 50, 50}, {50, 50, 50}, {50, 100, 50}, {51, 100, 51}, {100, 100, 100}};
    for (int[] d : due) {
      is("from " + d[0] + " to " + d[1], x.unsteady(d[0], d[1]), d[2]);
    }
    StillStars y = loopOf(new int[] {-1, 1}, new int[] {1});
    is("the first of all", y.unsteady(0, 100), 0);
    is("alone", y.unsteady(0, 0), 0);
    is("not behind it", y.unsteady(1, 100), NONE);
    StillStars z = loopOf(new int[] {1}, new int[] {-1});
    is("the last of all", z.unsteady(0, 100), 100);
    is("not ahead of it", z.unsteady(0, 99), NONE);
  }

  private static void unsteadyRefuses() {
    about(26, "BAD; NONE.");
    StillStars x = new StillStars();
    outside("unsteady from", 0, 100, BAD, v -> x.unsteady(v, 100));
    outside("unsteady to", 0, 100, BAD, v -> x.unsteady(0, v));
    is("from behind to", x.unsteady(5, 4), BAD);
    is("from the last to the first", x.unsteady(100, 0), BAD);
    is("both beyond", x.unsteady(101, 101), BAD);
    is("both below", x.unsteady(-1, -1), BAD);
    is("none", x.unsteady(0, 100), NONE);
    is("none at the first", x.unsteady(0, 0), NONE);
    is("none at the last", x.unsteady(100, 100), NONE);
    StillStars y = loopOf(new int[] {0}, new int[] {0});
    is("BAD ahead of what there is", y.unsteady(5, 4), BAD);
    is("none is steady", y.unsteady(4, 5), 4);
  }
}
