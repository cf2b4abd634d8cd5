/** Promises 27 to 30: cell, wind, foretell, guess. */
public final class LayersTest {
  private static final Due due = new Due("LayersTest");
  private static final int OFF = -10001;
  private static final int LEAST_INT = Integer.MIN_VALUE, MOST_INT = Integer.MAX_VALUE;

  public static void main(String[] args) {
    cell();
    wind();
    foretell();
    foretellRound();
    guess();
    guessOfLikeOnes();
    guessFar();
    guessRefuses();
    due.end();
  }

  private static void cell() {
    StillStars x = new StillStars();
    due.is("27 cell", x.cell(0, 0, 99), 0);
    due.is("27 what it was", x.cell(0, 0, -99), 99);
    due.is("27 below 0", x.cell(0, 0, 1), -99);
    due.is("27 the last", x.cell(2, 31, 5), 0);
    due.is("27 that one", x.cell(2, 31, 6), 5);
    int[][] bad = {{-1, 0, 0}, {3, 0, 0}, {0, -1, 0}, {0, 32, 0}, {0, 0, 100}, {0, 0, -100},
      {MOST_INT, 0, 0}, {0, LEAST_INT, 0}, {0, 0, LEAST_INT}};
    for (int[] b : bad) {
      due.is("27 bad " + b[0] + " " + b[1] + " " + b[2], x.cell(b[0], b[1], b[2]), OFF);
    }
    due.is("27 refused changes nothing", x.cell(0, 0, 0), 1);
  }

  private static void wind() {
    StillStars x = new StillStars();
    due.is("28 wind", x.wind(0, 31), 0);
    due.is("28 what it was", x.wind(0, -31), 31);
    due.is("28 another", x.wind(2, 5), 0);
    int[][] bad = {{-1, 0}, {3, 0}, {0, 32}, {0, -32}, {LEAST_INT, 0}, {0, MOST_INT}};
    for (int[] b : bad) {
      due.is("28 bad " + b[0] + " " + b[1], x.wind(b[0], b[1]), OFF);
    }
    due.is("28 refused changes nothing", x.wind(0, 0), -31);
  }

  private static void foretell() {
    StillStars x = new StillStars();
    due.is("29 nothing", x.foretell(3, 9999), 0);
    for (int i = 0; i < 32; i++) {
      x.cell(0, i, i * i % 67);
    }
    due.is("29 spot 0", x.foretell(0, 0), 1);
    due.is("29 spot 1 sees 4 and 5", x.foretell(1, 0), 25 - 16);
    due.is("29 frames do not matter without wind", x.foretell(1, 77), 25 - 16);
    x.wind(0, 2);
    due.is("29 frame 1 sees 6 and 7", x.foretell(1, 1), 49 - 36);
    x.set(6, 1);
    due.is("29 step 1: 3 and 4", x.foretell(1, 1), 16 - 9);
    x.set(6, 8);
    due.is("29 step 8: 10 and 11", x.foretell(1, 1), 121 % 67 - 100 % 67);
    x.cell(1, 8, -99);
    x.cell(1, 9, 99);
    due.is("29 two layers", x.foretell(1, 1), 121 % 67 - 100 % 67 + 198);
    x.cell(2, 8, 7);
    due.is("29 three layers", x.foretell(1, 1), 121 % 67 - 100 % 67 + 198 - 7);
    int[][] bad = {{-1, 0}, {4, 0}, {0, -1}, {0, 10000}, {LEAST_INT, 0}, {0, MOST_INT}};
    for (int[] b : bad) {
      due.is("29 bad " + b[0] + " " + b[1], x.foretell(b[0], b[1]), OFF);
    }
    x.mirror(8, 1);
    due.is("29 spot 7, step 8, frame 0: 56 is 24", x.foretell(7, 0), 25 * 25 % 67 - 24 * 24 % 67);
  }

  private static void foretellRound() {
    StillStars x = new StillStars();
    x.cell(0, 31, 10);
    x.cell(0, 0, 3);
    x.wind(0, 31);
    due.is("29 31 and 0", x.foretell(0, 1), -7);
    due.is("29 62 is 30", x.foretell(0, 2), 10);
    x.wind(0, -1);
    due.is("29 -1 is 31", x.foretell(0, 1), -7);
    due.is("29 -33 is 31", x.foretell(0, 33), -7);
    due.is("29 -9985 is 31", x.foretell(0, 9985), -7);
    x.wind(0, -31);
    due.is("29 -31 is 1", x.foretell(0, 1), 0);
    due.is("29 -31 times 9999 is 15", x.foretell(0, 9999), 0);
    x.cell(0, 16, 5);
    due.is("29 and 16", x.foretell(0, 9999), 5);
  }

  private static void rows(StillStars x, int lane, int shift) {
    int[] a = new int[32];
    int[] b = new int[32];
    for (int i = 0; i < 32; i++) {
      a[i] = i * i * 7 % 101;
      b[(i + shift) % 32] = a[i];
    }
    Due.row(x, 0, lane, a);
    Due.row(x, 1, lane, b);
  }

  private static void guess() {
    for (int shift = 0; shift < 32; shift++) {
      StillStars x = new StillStars();
      rows(x, shift % 3, shift);
      due.is("30 shift " + shift, x.guess(0, 1, shift % 3), shift);
      due.is("30 the other way " + shift, x.guess(1, 0, shift % 3), (32 - shift) % 32);
      x.item(1, shift % 3, 5, 120);
      due.is("30 one item off " + shift, x.guess(0, 1, shift % 3), shift);
      due.is("30 with itself " + shift, x.guess(1, 1, shift % 3), 0);
    }
  }

  private static void guessOfLikeOnes() {
    StillStars x = new StillStars();
    x.sheet(0, 2, 32);
    x.sheet(1, 2, 32);
    due.is("30 all alike", x.guess(0, 1, 2), 0);
    x.item(1, 2, 0, 5);
    due.is("30 all off by one item", x.guess(0, 1, 2), 0);
    due.is("30 the other way too", x.guess(1, 0, 2), 0);
    x.item(1, 2, 0, 0);
    for (int i = 0; i < 32; i += 8) {
      x.item(0, 2, i, 9);
      x.item(1, 2, i + 3, 9);
    }
    due.is("30 of 3, 11, 19, 27 the least", x.guess(0, 1, 2), 3);
    due.is("30 of 5, 13, 21, 29 the least", x.guess(1, 0, 2), 5);
    // items behind the 32nd do not count
    x.sheet(2, 2, 40);
    for (int i = 0; i < 32; i += 8) {
      x.item(2, 2, i, 9);
    }
    for (int i = 32; i < 40; i++) {
      x.item(2, 2, i, 1000);
    }
    due.is("30 of 40 items", x.guess(2, 1, 2), 3);
    due.is("30 of 40 items, the other way", x.guess(1, 2, 2), 5);
  }

  private static void guessFar() {
    StillStars x = new StillStars();
    x.sheet(0, 2, 32);
    x.sheet(1, 2, 32);
    for (int i = 0; i < 32; i++) {
      x.item(0, 2, i, i % 4 == 0 ? MOST_INT : LEAST_INT);
      x.item(1, 2, i, i % 4 == 2 ? MOST_INT : LEAST_INT);
    }
    due.is("30 ints as far apart as can be", x.guess(0, 1, 2), 2);
    x.sheet(2, 0, 32);
    x.sheet(3, 0, 32);
    for (int i = 0; i < 32; i++) {
      x.item(2, 0, i, i == 0 ? 127 : 0);
      x.item(3, 0, i, i == 1 ? 128 : i == 5 ? 100 : 0);
    }
    due.is("30 bytes have a sign", x.guess(2, 3, 0), 5);
  }

  private static void guessRefuses() {
    StillStars x = new StillStars();
    x.sheet(0, 1, 32);
    x.sheet(1, 1, 31);
    x.sheet(2, 2, 31);
    int[][] bad = {{-1, 3, 0}, {4, 3, 0}, {3, -1, 0}, {3, 4, 0}, {3, 3, -1}, {3, 3, 3}, {0, 4, 1}, {4, 0, 1},
      {0, 0, LEAST_INT}, {MOST_INT, 0, 1}};
    for (int[] b : bad) {
      due.is("30 bad " + b[0] + " " + b[1] + " " + b[2], x.guess(b[0], b[1], b[2]), -1);
    }
    due.is("30 null, the first", x.guess(3, 2, 1), -11);
    due.is("30 null, the second", x.guess(2, 3, 1), -11);
    due.is("30 null, behind a short one", x.guess(1, 3, 1), -11);
    due.is("30 null, both", x.guess(3, 3, 1), -11);
    due.is("30 cast, the first", x.guess(2, 0, 1), -12);
    due.is("30 cast, the second", x.guess(0, 2, 1), -12);
    due.is("30 cast, behind a short one", x.guess(1, 2, 1), -12);
    due.is("30 cast, ahead of a short one", x.guess(2, 1, 1), -12);
    due.is("30 index, the first", x.guess(1, 0, 1), -13);
    due.is("30 index, the second", x.guess(0, 1, 1), -13);
    due.is("30 index, both", x.guess(1, 1, 1), -13);
    due.is("30 just enough", x.guess(0, 0, 1), 0);
  }
}
