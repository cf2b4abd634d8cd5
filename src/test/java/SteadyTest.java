/** Promises 24 to 26: loop, steady, unsteady. */
public final class SteadyTest {
  private static final Due due = new Due("SteadyTest");

  public static void main(String[] args) {
    loop();
    loopRefuses();
    known();
    onTheRing();
    unsteady();
    gains();
    due.end();
  }

  /** D, with N = 0. */
  private static StillStars with(int... d) {
    StillStars x = new StillStars();
    Due.row(x, 0, 2, d);
    Due.row(x, 1, 2, 0);
    x.loop(0, 0, 2, 0, d.length);
    x.loop(1, 1, 2, 0, 1);
    return x;
  }

  private static void loop() {
    StillStars x = new StillStars();
    Due.row(x, 0, 1, 3, 50, -50, 2, 1, 0);
    for (int n = 1; n <= 5; n++) {
      due.is("24 D of " + n, x.loop(0, 0, 1, 0, n), n);
      due.is("24 N of " + n, x.loop(1, 0, 1, 1, n), n);
    }
    // fewer numbers than before: the others are gone
    Due.row(x, 1, 2, 1, 0, 0, 0, 2, 7);
    x.loop(0, 1, 2, 0, 5);
    x.loop(1, 1, 2, 1, 3);
    due.is("24 2 z^4 + 1", x.steady(0), 1);
    x.loop(0, 1, 2, 0, 1);
    due.is("24 1 alone", x.steady(0), 1);
    x.loop(0, 1, 2, 1, 1);
    due.is("24 0 alone", x.steady(0), 0);
    Due.row(x, 2, 0, 255, 2);
    due.is("24 bytes have a sign", x.loop(0, 2, 0, 0, 2), 2);
    due.is("24 2 z - 1", x.steady(100), 1);
  }

  private static void loopRefuses() {
    StillStars x = with(1, 2);
    Due.row(x, 0, 1, 1, 2, 51, -51, 5, 6);
    due.is("24 bad which", x.loop(2, 3, 0, 99, 1), -1);
    due.is("24 bad which -1", x.loop(-1, 3, 0, 99, 1), -1);
    due.is("24 bad n 0", x.loop(0, 3, 0, 99, 0), -1);
    due.is("24 bad n 6", x.loop(0, 3, 0, 99, 6), -1);
    due.is("24 bad n far", x.loop(0, 0, 1, 0, Integer.MIN_VALUE), -1);
    due.is("24 bad sheet", x.loop(0, 4, 0, 99, 1), -1);
    due.is("24 bad sheet -1", x.loop(0, -1, 0, 99, 1), -1);
    due.is("24 bad lane", x.loop(0, 3, 3, 99, 1), -1);
    due.is("24 bad lane -1", x.loop(0, 3, -1, 99, 1), -1);
    due.is("24 null", x.loop(0, 3, 0, 99, 1), -11);
    due.is("24 cast", x.loop(0, 0, 0, 99, 1), -12);
    due.is("24 index", x.loop(0, 0, 1, 2, 5), -13);
    due.is("24 index at the end", x.loop(0, 0, 1, 6, 1), -13);
    due.is("24 index below 0", x.loop(0, 0, 1, -1, 1), -13);
    due.is("24 index far", x.loop(0, 0, 1, Integer.MAX_VALUE, 5), -13);
    due.is("24 not 51", x.loop(0, 0, 1, 1, 2), -2);
    due.is("24 not -51", x.loop(0, 0, 1, 3, 1), -2);
    due.is("24 refused changes nothing", x.steady(7), 1);
    due.is("24 the last items", x.loop(0, 0, 1, 4, 2), 2);
  }

  private static void known() {
    int[][] within = {{7}, {-50}, {0, 1}, {0, -3}, {1, 2}, {-49, 50}, {49, -50}, {0, 0, 1}, {1, 0, 2},
      {-1, 0, 4}, {49, 0, 50}, {1, 2, 3}, {0, 0, 0, 1}, {1, 2, 3, 4}, {-1, -1, -1, 4}, {0, 0, 0, 0, -1},
      {1, 2, 3, 4, 5}, {1, 0, 0, 0, 2}, {-49, 0, 0, 0, 50}, {1, -8, 24, -32, 16}, {1, 2, 0}, {5, 0, 0, 0, 0}};
    int[][] beyond = {{0}, {2, 1}, {50, -49}, {2, 0, 1}, {-2, 0, 1}, {1, 3, 1}, {3, -5, 1}, {4, 3, 2, 1},
      {5, 4, 3, 2, 1}, {2, 0, 0, 0, 1}, {0, 0, 0, 2, 1}, {0, 2, 1}, {-1, -3, -1}, {0, 0, 0, -50, 49},
      {0, 0, 0}, {0, 5, -4, 0, 0}, {0, 1, -3, 1, 0}, {16, -32, 24, -8, 1}};
    for (int[] d : within) {
      due.is("25 within " + java.util.Arrays.toString(d), with(d).steady(3), 1);
    }
    for (int[] d : beyond) {
      due.is("25 beyond " + java.util.Arrays.toString(d), with(d).steady(3), 0);
    }
  }

  private static void onTheRing() {
    int[][] on = {{1, 1}, {-1, 1}, {50, 50}, {1, 0, 1}, {-1, 0, 1}, {1, 1, 1}, {0, 1, 1}, {0, -1, 1}, {1, 2, 1},
      {1, 0, 0, 1}, {0, 1, 0, 1}, {0, 0, 1, 1}, {1, 1, 1, 1}, {1, 3, 3, 1}, {-1, 2, -2, 1}, {1, 0, 0, 0, 1},
      {0, 0, 0, 1, 1}, {0, 0, 1, 0, 1}, {0, 1, 0, 0, 1}, {1, 1, 1, 1, 1}, {1, 2, 3, 2, 1}, {0, -1, 1, -1, 1},
      {1, -3, 2}, {-1, -1, 2}, {1, 3, 4, 2}, {1, 1, 3, 1, 2}, {-1, 1, 1, 1, 2}, {1, 0, 3, 0, 2}};
    for (int[] d : on) {
      due.is("25 on it " + java.util.Arrays.toString(d), with(d).steady(50), 0);
    }
  }

  private static void unsteady() {
    StillStars x = new StillStars();
    due.is("26 none", x.unsteady(0, 100), -4);
    // 100 z + g: not steady from g = 100 on
    Due.row(x, 0, 2, 0, 1);
    x.loop(0, 0, 2, 0, 2);
    due.is("26 at the last", x.unsteady(0, 100), 100);
    due.is("26 none ahead of it", x.unsteady(0, 99), -4);
    due.is("26 from there", x.unsteady(100, 100), 100);
    // 100 z + 2 g
    Due.row(x, 1, 2, 2);
    x.loop(1, 1, 2, 0, 1);
    due.is("26 in between", x.unsteady(0, 100), 50);
    due.is("26 from behind", x.unsteady(73, 90), 73);
    due.is("26 one that is steady", x.unsteady(49, 49), -4);
    due.is("26 up to it", x.unsteady(49, 50), 50);
    due.is("26 from 0", x.unsteady(0, 0), -4);
    int[][] bad = {{-1, 5}, {0, 101}, {101, 101}, {5, 4}, {-5, -4}, {Integer.MIN_VALUE, Integer.MAX_VALUE}, {0, -1}};
    for (int[] b : bad) {
      due.is("26 bad " + b[0] + " " + b[1], x.unsteady(b[0], b[1]), -1);
    }
  }

  private static void gains() {
    StillStars x = new StillStars();
    // D is 1 at first, and so is N
    Due.row(x, 0, 2, -1);
    x.loop(1, 0, 2, 0, 1);
    due.is("24 100 - g", x.unsteady(0, 100), 100);
    x = new StillStars();
    Due.row(x, 0, 2, -1);
    x.loop(0, 0, 2, 0, 1);
    due.is("24 g - 100", x.unsteady(0, 100), 100);
    int[] bad = {-1, 101, Integer.MIN_VALUE, Integer.MAX_VALUE};
    for (int gain : bad) {
      due.is("25 bad " + gain, x.steady(gain), -1);
    }
    // z - 1 with N 1: 100 z - 100 + g
    Due.row(x, 0, 2, -1, 1);
    x.loop(0, 0, 2, 0, 2);
    due.is("25 no gain", x.steady(0), 0);
    due.is("25 a little", x.steady(1), 1);
    due.is("25 all", x.steady(100), 1);
    // D = -N: at gain 100 nothing is left
    Due.row(x, 1, 2, 3, -2);
    Due.row(x, 2, 2, -3, 2);
    x.loop(0, 1, 2, 0, 2);
    x.loop(1, 2, 2, 0, 2);
    due.is("25 (100 - g) (3 - 2 z)", x.steady(99), 0);
    due.is("25 nothing left", x.steady(100), 0);
    // D = 50 z^4, N = -50 z^4 + 1: at gain 100 only a number is left
    Due.row(x, 1, 2, 0, 0, 0, 0, 50);
    Due.row(x, 2, 2, 1, 0, 0, 0, -50);
    x.loop(0, 1, 2, 0, 5);
    x.loop(1, 2, 2, 0, 5);
    due.is("25 50 z^4 + 99", x.steady(99), 0);
    due.is("25 a number alone", x.steady(100), 1);
    due.is("25 100 z^4 + 98", x.steady(98), 1);
    due.is("26 just one", x.unsteady(0, 100), 99);
  }
}
