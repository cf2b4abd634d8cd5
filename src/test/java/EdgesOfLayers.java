/** Edges of the terms' fourth part, of sheets, and of promises 27 to 34: layers, sheets. */
final class EdgesOfLayers extends Edges {
  static void run() {
    rings();
    step();
    foretoldRound();
    foretoldSum();
    guessOfShifts();
    guessOfLikeOnes();
    guessOfFarOnes();
    sheetsAtFirst();
    cell();
    cellBad();
    wind();
    windBad();
    foretell();
    foretellBad();
    guess();
    guessRefuses();
    sheet();
    sheetBad();
    sheetSize();
    drop();
    dropRefuses();
    item();
    itemLowestBits();
    itemRefuses();
    layer();
    layerRefuses();
  }

  // ---- terms

  private static void rings() {
    about(0, "LAYERS 0 .. 2 are rings of 32 CELLS (-99 .. 99; 0 at first), each with a WIND"
        + " (-31 .. 31 CELLS a FRAME; 0 at first).");
    StillStars x = new StillStars();
    for (int l = 0; l < 3; l++) {
      is("wind at first " + l, x.wind(l, l == 1 ? -31 : 31), 0);
      for (int i = 0; i < 32; i++) {
        is("cell at first " + l + " " + i, x.cell(l, i, i % 2 == 0 ? 99 : -99), 0);
      }
    }
    for (int l = 0; l < 3; l++) {
      is("wind " + l, x.wind(l, 0), l == 1 ? -31 : 31);
      is("the first cell " + l, x.cell(l, 0, 0), 99);
      is("the last cell " + l, x.cell(l, 31, 0), -99);
    }
    is("no LAYER 3", x.cell(3, 0, 0), BAD_FAR);
    is("no CELL 32", x.cell(0, 32, 0), BAD_FAR);
  }

  private static void step() {
    about(0, "STEP (1 .. 8; 4 at first).");
    for (int step = 1; step <= 8; step++) {
      StillStars x = mirror(8, 1);
      if (step != 4) {
        x.set(6, step);
      }
      for (int i = 0; i < 32; i++) {
        x.cell(2, i, i * i % 97);
      }
      for (int s = 0; s < 8; s++) {
        int here = step * s % 32;
        int next = (here + 1) % 32;
        is("STEP " + step + " SPOT " + s, x.foretell(s, 0), next * next % 97 - here * here % 97);
      }
    }
  }

  private static void foretoldRound() {
    about(0, "At FRAME t (0 .. 9999) a SPOT s sees of a LAYER the CELL STEP s + WIND t, round, and the next one:"
        + " the latter less the former;");
    StillStars x = mirror(8, 1);
    x.cell(1, 31, 50);
    x.cell(1, 0, 8);
    x.cell(1, 1, 1);
    // WIND, FRAME, what SPOT 0 sees: 31 less 30 is 50, 0 less 31 is -42, 1 less 0 is -7, 2 less 1 is -1
    int[][] due = {{0, 0, -7}, {0, 9999, -7}, {1, 0, -7}, {1, 1, -1}, {1, 30, 50}, {1, 31, -42}, {1, 32, -7}, {1, 9983, -42},
      {1, 9984, -7}, {1, 9999, 0}, {-1, 1, -42}, {-1, 2, 50}, {-1, 31, -1}, {-1, 32, -7}, {-1, 33, -42}, {-1, 9984, -7},
      {-1, 9985, -42}, {31, 1, -42}, {31, 2, 50}, {31, 31, -1}, {31, 32, -7}, {31, 9985, -42}, {31, 9984, -7}, {-31, 1, -1},
      {-31, 31, -42}, {-31, 30, 50}, {-31, 32, -7}, {-31, 9983, -42}, {16, 1, 0}, {16, 2, -7}, {-16, 9998, -7}, {-16, 9999, 0}};
    for (int[] d : due) {
      x.wind(1, d[0]);
      is("WIND " + d[0] + " FRAME " + d[1], x.foretell(0, d[1]), d[2]);
    }
    x.wind(1, 3);
    // SPOT 7 at 28 of STEP 4: one FRAME on at 31
    is("SPOT 7 goes round", x.foretell(7, 1), -42);
    x.set(6, 8);
    // SPOT 4 at 32
    x.wind(1, 0);
    is("SPOT 4 at STEP 8 is where SPOT 0 is", x.foretell(4, 5), -7);
    x.wind(1, -31);
    // 56 - 31 * 9999 = -309913 is 7 of 32
    is("the farthest back", x.foretell(7, 9999), 0);
    x.cell(1, 7, 60);
    is("the farthest back sees 7", x.foretell(7, 9999), -60);
    x.wind(1, 31);
    // 56 + 31 * 9999 = 310025 is 9 of 32
    x.cell(1, 9, 70);
    is("the farthest on sees 9", x.foretell(7, 9999), -70);
  }

  private static void foretoldSum() {
    about(0, "FORETOLD is the sum over LAYERS.");
    StillStars x = new StillStars();
    for (int l = 0; l < 3; l++) {
      x.cell(l, 31, -99);
      x.cell(l, 0, 99);
      x.cell(l, 1, -99);
      is("LAYERS up to " + l, x.foretell(0, 0), -198 * (l + 1));
    }
    x.wind(0, -1);
    is("one goes back", x.foretell(0, 1), 198 - 2 * 198);
    x.wind(1, 31);
    x.wind(2, -1);
    is("the most", x.foretell(0, 1), 3 * 198);
    is("the least", x.foretell(0, 0), -3 * 198);
    is("the least, once round", x.foretell(0, 32), -3 * 198);
  }

  /** Two rows, the second shifted on by k. */
  private static StillStars shifted(int lane, int k, int n) {
    StillStars x = new StillStars();
    x.sheet(0, lane, n);
    x.sheet(1, lane, n);
    for (int i = 0; i < 32; i++) {
      x.item(0, lane, i, i * i * 5 % 113 - 50);
      x.item(1, lane, (i + k) % 32, i * i * 5 % 113 - 50);
    }
    return x;
  }

  private static void guessOfShifts() {
    about(0, "GUESS of two rows of 32 items: the shift k (0 .. 31) with the least sum of sizes of item i of the one less"
        + " item i + k, round, of the other;");
    for (int lane = 0; lane < 3; lane++) {
      for (int k = 0; k < 32; k++) {
        StillStars x = shifted(lane, k, 32);
        is("shift " + k, x.guess(0, 1, lane), k);
        is("the other way " + k, x.guess(1, 0, lane), (32 - k) % 32);
        x.item(1, lane, (k + 3) % 32, 127);
        x.item(0, lane, 9, -128);
        is("not quite alike " + k, x.guess(0, 1, lane), k);
      }
    }
    StillStars x = new StillStars();
    x.sheet(0, INTS, 32);
    x.sheet(1, INTS, 32);
    int[][] items = {{0, 0, 2}, {0, 31, 2}, {1, 4, -2}, {1, 9, 2}};
    for (int[] i : items) {
      x.item(i[0], INTS, i[1], i[2]);
    }
    // 9 and 10 are off by 4, all others by 8; with signs all would be alike
    is("sizes, not numbers", x.guess(0, 1, INTS), 9);
    StillStars y = new StillStars();
    y.sheet(0, INTS, 32);
    y.sheet(1, INTS, 32);
    int[][] others = {{0, 3, 2}, {0, 4, 3}, {0, 5, 4}, {1, 1, 6}, {1, 6, 3}, {1, 7, 2}};
    for (int[] i : others) {
      y.item(i[0], INTS, i[1], i[2]);
    }
    // 2 is off by 2 + 0 + 2 + 6, 28 by 2 + 3 + 2 + 3 + 2: of squares it would be less
    is("sizes, not squares", y.guess(0, 1, INTS), 2);
  }

  private static void guessOfLikeOnes() {
    about(0, "of like ones the least.");
    StillStars x = new StillStars();
    x.sheet(0, SHORTS, 32);
    x.sheet(1, SHORTS, 32);
    is("all 0", x.guess(0, 1, SHORTS), 0);
    x.item(1, SHORTS, 31, 9);
    is("all off alike", x.guess(0, 1, SHORTS), 0);
    x.item(0, SHORTS, 0, 9);
    is("31 alone", x.guess(0, 1, SHORTS), 31);
    x.item(1, SHORTS, 15, 9);
    is("of 15 and 31", x.guess(0, 1, SHORTS), 15);
    x.item(1, SHORTS, 1, 9);
    is("of 1, 15 and 31", x.guess(0, 1, SHORTS), 1);
    x.item(1, SHORTS, 0, 9);
    is("of 0 and others", x.guess(0, 1, SHORTS), 0);
    is("a row with itself", x.guess(1, 1, SHORTS), 0);
  }

  private static void guessOfFarOnes() {
    about(0, "the least sum of sizes");
    StillStars x = new StillStars();
    x.sheet(0, INTS, 32);
    x.sheet(1, INTS, 32);
    for (int i = 0; i < 32; i++) {
      x.item(0, INTS, i, i < 16 ? MAX : MIN);
      x.item(1, INTS, (i + 7) % 32, i < 16 ? MAX : MIN);
    }
    is("the farthest items", x.guess(0, 1, INTS), 7);
    x.item(1, INTS, 7, MIN);
    is("one item off as far as can be", x.guess(0, 1, INTS), 7);
    StillStars y = new StillStars();
    alike(y, 0, INTS, 32, MIN);
    alike(y, 1, INTS, 32, MAX);
    is("all as far as can be", y.guess(0, 1, INTS), 0);
    y.item(0, INTS, 31, MAX);
    y.item(1, INTS, 5, MIN);
    is("all alike still", y.guess(0, 1, INTS), 0);
    y.item(1, INTS, 5, MAX - 1);
    is("one less far from it at each but one", y.guess(0, 1, INTS), 0);
    StillStars z = new StillStars();
    z.sheet(0, INTS, 32);
    z.sheet(1, INTS, 32);
    z.item(0, INTS, 0, MIN);
    z.item(1, INTS, 3, MAX);
    z.item(1, INTS, 8, MIN + 1);
    is("MIN less MAX is far", z.guess(0, 1, INTS), 8);
  }

  private static void sheetsAtFirst() {
    about(0, "sheets 0 .. 3: nothing (at first), or a row of a LANE: 0 bytes, 1 shorts, 2 ints, of 0 to 40 items.");
    StillStars x = new StillStars();
    for (int sheet = 0; sheet < 4; sheet++) {
      for (int lane = 0; lane < 3; lane++) {
        is("nothing at first", x.item(sheet, lane, 0, 1), NULL);
      }
      is("nothing to drop", x.drop(sheet), NULL);
    }
    is("no sheet 4", x.drop(4), BAD);
    for (int n = 0; n <= 40; n++) {
      int sheet = n % 4;
      int lane = n % 3;
      is("sheet of " + n, x.sheet(sheet, lane, n), n);
      if (n > 0) {
        is("the last of " + n, x.item(sheet, lane, n - 1, 1), 1);
      }
      is("beyond the last of " + n, x.item(sheet, lane, n, 1), INDEX);
      for (int other = 0; other < 3; other++) {
        if (other != lane) {
          is("another LANE", x.item(sheet, other, 0, 1), CAST);
        }
      }
    }
  }

  // ---- promises 27 to 30

  private static void cell() {
    about(27, "A CELL of a LAYER: what it was.");
    StillStars x = new StillStars();
    for (int l = 0; l < 3; l++) {
      for (int i = 0; i < 32; i++) {
        is("at first", x.cell(l, i, l * 32 + i - 99), 0);
      }
    }
    for (int l = 0; l < 3; l++) {
      for (int i = 0; i < 32; i++) {
        is("each its own", x.cell(l, i, 99), l * 32 + i - 99);
        is("the most", x.cell(l, i, -99), 99);
        is("the least", x.cell(l, i, 0), -99);
      }
    }
  }

  private static void cellBad() {
    about(27, "BAD less 10000.");
    StillStars x = new StillStars();
    x.cell(2, 31, 5);
    outside("cell of a LAYER", 0, 2, BAD_FAR, v -> x.cell(v, 31, 1));
    outside("cell i", 0, 31, BAD_FAR, v -> x.cell(2, v, 1));
    outside("cell of a number", -99, 99, BAD_FAR, v -> x.cell(2, 31, v));
    is("as it was", x.cell(2, 31, 0), 5);
    is("none round it", x.cell(2, 0, 0), 0);
  }

  private static void wind() {
    about(28, "WIND: what it was.");
    StillStars x = new StillStars();
    for (int l = 0; l < 3; l++) {
      is("at first", x.wind(l, 31), 0);
      is("the most", x.wind(l, -31), 31);
      is("the least", x.wind(l, l + 1), -31);
    }
    for (int l = 0; l < 3; l++) {
      is("each its own", x.wind(l, 0), l + 1);
    }
  }

  private static void windBad() {
    about(28, "BAD less 10000.");
    StillStars x = new StillStars();
    x.wind(2, -31);
    outside("wind of a LAYER", 0, 2, BAD_FAR, v -> x.wind(v, 1));
    outside("wind of a number", -31, 31, BAD_FAR, v -> x.wind(2, v));
    is("as it was", x.wind(2, 0), -31);
  }

  private static void foretell() {
    about(29, "FORETOLD.");
    StillStars x = new StillStars();
    is("nothing at first", x.foretell(0, 0), 0);
    is("nor later", x.foretell(3, 9999), 0);
    x.cell(0, 12, 99);
    is("SPOT 3 sees CELL 12", x.foretell(3, 0), -99);
    x.cell(0, 13, -99);
    is("and 13", x.foretell(3, 0), -198);
    is("LOST or not", x.spot(3, 1), 1);
    x.frames(100);
    is("FRAMES done do not matter", x.foretell(3, 0), -198);
    is("telling changes nothing", x.foretell(3, 0), -198);
  }

  private static void foretellBad() {
    about(29, "BAD less 10000.");
    for (int s = 1; s <= 8; s++) {
      StillStars x = mirror(s, 1);
      outside("foretell of a SPOT", 0, s - 1, BAD_FAR, v -> x.foretell(v, 0));
      outside("foretell of a FRAME", 0, 9999, BAD_FAR, v -> x.foretell(0, v));
      is("the last FRAME", x.foretell(s - 1, 9999), 0);
    }
  }

  private static void guess() {
    about(30, "GUESS of 32 items of two SHEETS, both taken as rows of a LANE, from 0 on.");
    for (int lane = 0; lane < 3; lane++) {
      StillStars x = shifted(lane, 31, 40);
      for (int i = 32; i < 40; i++) {
        x.item(0, lane, i, 100);
        x.item(1, lane, i, -100);
      }
      is("of 40, the first 32", x.guess(0, 1, lane), 31);
      is("of 40, the other way", x.guess(1, 0, lane), 1);
      is("with itself", x.guess(0, 0, lane), 0);
      StillStars y = shifted(lane, 13, 32);
      is("of just 32", y.guess(0, 1, lane), 13);
      y.sheet(2, lane, 40);
      for (int i = 0; i < 32; i++) {
        y.item(2, lane, i, (i + 8) % 32 * ((i + 8) % 32) * 5 % 113 - 50);
      }
      y.sheet(3, lane, 0);
      is("of 32 and 40", y.guess(0, 2, lane), 24);
      is("of 40 and 32", y.guess(2, 0, lane), 8);
      is("an empty one", y.guess(0, 3, lane), INDEX);
    }
  }

  /** What a SHEET may be: 0 nothing, 1 of another LANE, 2 too short, 3 as it must be. */
  private static void make(StillStars x, int sheet, int kind, int lane) {
    if (kind == 1) {
      x.sheet(sheet, (lane + 1) % 3, 32);
    } else if (kind == 2) {
      x.sheet(sheet, lane, 31);
    } else if (kind == 3) {
      x.sheet(sheet, lane, 32);
    }
  }

  private static void guessRefuses() {
    about(30, "BAD; NULL (either); CAST; INDEX: one has fewer.");
    int[] refusals = {NULL, CAST, INDEX, 0};
    for (int lane = 0; lane < 3; lane++) {
      for (int a = 0; a < 4; a++) {
        for (int b = 0; b < 4; b++) {
          StillStars x = new StillStars();
          make(x, 1, a, lane);
          make(x, 2, b, lane);
          is("kinds " + a + " " + b, x.guess(1, 2, lane), refusals[Math.min(a, b)]);
          is("kind " + a + " with itself", x.guess(1, 1, lane), refusals[a]);
          int row = lane;
          outside("guess of a", 0, 3, BAD, v -> x.guess(v, 2, row));
          outside("guess of b", 0, 3, BAD, v -> x.guess(1, v, row));
          outside("guess of a LANE", 0, 2, BAD, v -> x.guess(1, 2, v));
        }
      }
    }
    StillStars x = new StillStars();
    x.sheet(0, BYTES, 0);
    x.sheet(1, SHORTS, 40);
    is("another LANE ahead of fewer", x.guess(0, 1, BYTES), CAST);
    is("another LANE behind fewer", x.guess(1, 0, BYTES), CAST);
    is("both of another", x.guess(0, 1, INTS), CAST);
    is("none ahead of all", x.guess(0, 2, INTS), NULL);
  }

  // ---- promises 31 to 34

  private static void sheet() {
    about(31, "A SHEET holds a new row of a LANE: n.");
    for (int sheet = 0; sheet < 4; sheet++) {
      for (int lane = 0; lane < 3; lane++) {
        StillStars x = mirror(1, 1);
        for (int before = 0; before < 3; before++) {
          alike(x, sheet, before, 40, 7);
          is("none", x.sheet(sheet, lane, 0), 0);
          is("its length", x.drop(sheet), 0);
          is("40", x.sheet(sheet, lane, 40), 40);
          for (int i = 0; i < 40; i += 13) {
            x.poke(0, 1, sheet, lane, i);
            is("new items are 0", x.told(0, 0, 0), 0);
            x.table(0, 0, 0);
          }
        }
        is("its length", x.drop(sheet), 40);
      }
    }
    StillStars x = mirror(1, 1);
    alike(x, 0, INTS, 40, 7);
    x.sheet(0, INTS, 3);
    x.sheet(0, INTS, 40);
    for (int i = 0; i < 40; i++) {
      x.poke(0, 1, 0, INTS, i);
      is("longer again: item " + i, x.told(0, 0, 0), 0);
      x.table(0, 0, 0);
    }
    alike(x, 1, INTS, 40, 7);
    x.sheet(0, INTS, 40);
    x.sheet(2, INTS, 40);
    x.poke(0, 1, 1, INTS, 0);
    is("other SHEETS stay", x.told(0, 0, 0), 7);
    x.table(0, 0, 0);
    x.poke(0, 1, 1, INTS, 39);
    is("other SHEETS stay, to the last", x.told(0, 0, 0), 7);
  }

  private static void sheetBad() {
    about(31, "BAD: also n above 40;");
    StillStars x = new StillStars();
    x.sheet(1, SHORTS, 5);
    outside("sheet", 0, 3, BAD, v -> x.sheet(v, 1, 5));
    outside("sheet of a LANE", 0, 2, BAD, v -> x.sheet(1, v, 5));
    for (int n : new int[] {41, 42, 100, 256, 65536, MAX}) {
      is("of " + n, x.sheet(1, 0, n), BAD);
    }
    is("as it was", x.item(1, SHORTS, 4, 1), 1);
    is("no longer", x.item(1, SHORTS, 5, 1), INDEX);
    is("40 may be", x.sheet(1, BYTES, 40), 40);
  }

  private static void sheetSize() {
    about(31, "SIZE: n below 0.");
    StillStars x = new StillStars();
    x.sheet(1, SHORTS, 5);
    for (int n : new int[] {-1, -2, -40, -41, -256, -65536, MIN, MIN + 1}) {
      is("of " + n, x.sheet(1, BYTES, n), SIZE);
      is("BAD sheet, " + n, x.sheet(4, BYTES, n), BAD);
      is("BAD lane, " + n, x.sheet(1, 3, n), BAD);
      is("BAD lane below, " + n, x.sheet(1, -1, n), BAD);
    }
    is("as it was", x.drop(1), 5);
    is("SIZE makes nothing", x.sheet(1, BYTES, -1), SIZE);
    is("it holds nothing", x.drop(1), NULL);
    is("0 may be", x.sheet(1, BYTES, 0), 0);
  }

  private static void drop() {
    about(32, "A SHEET holds nothing: how many items it had.");
    for (int n = 0; n <= 40; n++) {
      StillStars x = new StillStars();
      for (int sheet = 0; sheet < 4; sheet++) {
        x.sheet(sheet, n % 3, n);
      }
      is("had " + n, x.drop(n % 4), n);
      is("nothing", x.item(n % 4, n % 3, 0, 0), NULL);
      is("another is there", x.drop((n + 1) % 4), n);
    }
  }

  private static void dropRefuses() {
    about(32, "BAD; NULL.");
    StillStars x = new StillStars();
    x.sheet(3, INTS, 4);
    outside("drop", 0, 3, BAD, x::drop);
    is("nothing at first", x.drop(2), NULL);
    is("had 4", x.drop(3), 4);
    is("nothing behind it", x.drop(3), NULL);
    x.sheet(3, INTS, 0);
    is("an empty one is no NULL", x.drop(3), 0);
    is("but then", x.drop(3), NULL);
  }

  private static void item() {
    about(33, "Item i of a SHEET, taken as a row of a LANE, becomes v,");
    for (int sheet = 0; sheet < 4; sheet++) {
      for (int lane = 0; lane < 3; lane++) {
        StillStars x = mirror(1, 1);
        x.sheet(sheet, lane, 40);
        for (int i = 0; i < 40; i++) {
          is("item " + i, x.item(sheet, lane, i, i % 19 - 9), 1);
        }
        for (int i = 0; i < 40; i++) {
          x.poke(0, 1, sheet, lane, i);
          is("it is, " + i, x.told(0, 0, 0), i % 19 - 9);
          x.table(0, 0, 0);
        }
      }
    }
  }

  /**
   * What item 0 became when v was put: its row is 0 but for it; the other one has what is due at 3 and
   * what is not at 7, on the other side of 0, so that the shift tells.
   */
  private static int tells(int lane, int v, int due, int not) {
    StillStars x = new StillStars();
    x.sheet(0, lane, 32);
    x.sheet(1, lane, 32);
    x.item(0, lane, 0, v);
    x.item(1, lane, 3, due);
    x.item(1, lane, 7, not);
    return x.guess(0, 1, lane);
  }

  private static void itemLowestBits() {
    about(33, "its lowest bits: 1.");
    int[][] bytes = {{127, 127}, {128, -128}, {129, -127}, {255, -1}, {257, 1}, {-128, -128}, {-129, 127}, {-255, 1}, {511, -1},
      {65535, -1}, {65537, 1}, {MAX, -1}, {MIN + 1, 1}, {MIN + 127, 127}, {MAX - 127, -128}};
    for (int[] b : bytes) {
      is("byte " + b[0], tells(BYTES, b[0], b[1], b[1] > 0 ? -128 : 127), 3);
    }
    int[][] shorts = {{32767, 32767}, {32768, -32768}, {65535, -1}, {65537, 1}, {-32768, -32768}, {-32769, 32767}, {128, 128},
      {255, 255}, {-129, -129}, {MAX, -1}, {MIN + 1, 1}, {MIN + 32767, 32767}, {MAX - 32767, -32768}};
    for (int[] s : shorts) {
      is("short " + s[0], tells(SHORTS, s[0], s[1], s[1] > 0 ? -32768 : 32767), 3);
    }
    for (int v : new int[] {1, -1, 128, 32768, -32769, 65537, MAX, MIN, MIN + 1}) {
      is("int " + v, tells(INTS, v, v, v > 0 ? MIN : MAX), 3);
    }
    // where nothing is left in the lowest bits, a POKE tells it
    StillStars x = mirror(1, 1);
    x.sheet(0, BYTES, 1);
    x.sheet(1, SHORTS, 1);
    for (int v : new int[] {256, -256, 65536, MIN}) {
      x.item(0, BYTES, 0, 9);
      x.item(0, BYTES, 0, v);
      x.poke(0, 1, 0, BYTES, 0);
      is("byte " + v + " is 0", x.told(0, 0, 0), 0);
      x.table(0, 0, 0);
    }
    for (int v : new int[] {65536, -65536, MIN}) {
      x.item(1, SHORTS, 0, 9);
      x.item(1, SHORTS, 0, v);
      x.poke(0, 1, 1, SHORTS, 0);
      is("short " + v + " is 0", x.told(0, 0, 0), 0);
      x.table(0, 0, 0);
    }
  }

  private static void itemRefuses() {
    about(33, "BAD; NULL; CAST; INDEX.");
    for (int lane = 0; lane < 3; lane++) {
      StillStars x = mirror(1, 1);
      int row = lane;
      alike(x, 2, row, 3, 5);
      outside("item of a SHEET", 0, 3, BAD, v -> x.item(v, row, 0, 1));
      outside("item of a LANE", 0, 2, BAD, v -> x.item(2, v, 0, 1));
      outside("item of nothing, a LANE", 0, 2, BAD, v -> x.item(1, v, 0, 1));
      outside("item i", 0, 2, INDEX, v -> x.item(2, row, v, 1));
      outside("item i of nothing", 0, 2, NULL, v -> x.item(1, row, v, 1));
      outside("item i of another LANE", 0, 2, CAST, v -> x.item(2, (row + 1) % 3, v, 1));
      is("another LANE", x.item(2, (row + 2) % 3, 0, 1), CAST);
      for (int i = 0; i < 3; i++) {
        x.poke(0, 1, 2, row, i);
        is("as it was " + i, x.told(0, 0, 0), 5);
        x.table(0, 0, 0);
      }
      x.sheet(2, row, 0);
      is("none in an empty row", x.item(2, row, 0, 1), INDEX);
    }
  }

  private static void layer() {
    about(34, "Items of a LAYER's CELLS come from a SHEET (32, taken as a row of a LANE, from one on): 32.");
    for (int lane = 0; lane < 3; lane++) {
      StillStars x = new StillStars();
      x.sheet(3, lane, 40);
      for (int i = 0; i < 40; i++) {
        x.item(3, lane, i, 5 * i - 99);
      }
      for (int from : new int[] {0, 1, 7, 8}) {
        is("layer from " + from, x.layer(lane, 3, lane, from), 32);
        for (int i = 0; i < 32; i++) {
          is("cell " + i, x.cell(lane, i, 0), 5 * (from + i) - 99);
        }
      }
      is("from 9", x.layer(lane, 3, lane, 9), INDEX);
      x.sheet(2, lane, 32);
      x.wind(lane, 31);
      is("of just 32", x.layer(lane, 2, lane, 0), 32);
      is("from 1 of 32", x.layer(lane, 2, lane, 1), INDEX);
      is("WIND stays", x.wind(lane, 0), 31);
      is("another LAYER stays", x.cell((lane + 1) % 3, 0, 0), 0);
      x.sheet(2, lane, 31);
      is("of 31", x.layer(lane, 2, lane, 0), INDEX);
    }
  }

  private static void layerRefuses() {
    about(34, "BAD; NULL; CAST; INDEX; NOT: one is not -99 .. 99.");
    for (int lane = 0; lane < 3; lane++) {
      StillStars x = new StillStars();
      int row = lane;
      x.sheet(0, row, 34);
      for (int i = 0; i < 34; i++) {
        for (int v : new int[] {100, -100, row == BYTES ? 127 : 32767, row == BYTES ? -128 : -32768}) {
          x.item(0, row, i, v);
          boolean taken = i >= 1 && i <= 32;
          is("item " + i + " is " + v, x.layer(2, 0, row, 1), taken ? NOT : 32);
        }
        for (int v : new int[] {99, -99}) {
          x.item(0, row, i, v);
        }
        is("item " + i + " is -99", x.layer(2, 0, row, 1), 32);
      }
      outside("layer", 0, 2, BAD, v -> x.layer(v, 0, row, 1));
      outside("layer of a SHEET", 0, 3, BAD, v -> x.layer(2, v, row, 1));
      outside("layer of a LANE", 0, 2, BAD, v -> x.layer(2, 0, v, 1));
      outside("layer from", 0, 2, INDEX, v -> x.layer(2, 0, row, v));
      is("no SHEET", x.layer(2, 1, row, 1), NULL);
      is("another LANE", x.layer(2, 0, (row + 1) % 3, 1), CAST);
      is("as it was", x.cell(2, 31, 0), -99);
    }
  }
}
