/** Edges of the terms' first part, and of promises 1 to 10: spots, the table. */
final class EdgesOfSpots extends Edges {
  private static final int[] LOW = {0, 1, 0, 0, 1, 0, 1};
  private static final int[] HIGH = {255, 4080, 8, 200, 60, 120, 8};
  private static final int[] FIRST = {20, 50, 1, 50, 40, 30, 4};

  static void run() {
    spotsAndParts();
    lightsOfABoard();
    dark();
    least();
    middle();
    slope();
    number();
    numberByPokes();
    doubt();
    newObject();
    mirrorAsAtFirst();
    mirrorInEachState();
    mirrorStays();
    mirrorBad();
    light();
    lightBad();
    board();
    boardRefuses();
    boardOfBytes();
    set();
    setBad();
    rest();
    restBad();
    spot();
    spotBad();
    table();
    tableBad();
    poke();
    pokeRefuses();
    pokeFull();
    told();
    toldBad();
  }

  // ---- terms

  private static void spotsAndParts() {
    about(0, "SPOTS 0 .. S - 1 (S 1 .. 8; 4 at first), PARTS of the mirror 0 .. A - 1 (A 1 .. 5; 2 at first).");
    counts(new StillStars(), 4, 2);
    for (int s = 1; s <= 8; s++) {
      for (int a = 1; a <= 5; a++) {
        counts(mirror(s, a), s, a);
      }
    }
    StillStars x = mirror(8, 5);
    x.mirror(1, 1);
    counts(x, 1, 1);
    x.mirror(8, 5);
    counts(x, 8, 5);
  }

  /** The last SPOT and the last PART are there for every call, the next ones for none. */
  private static void counts(StillStars x, int s, int a) {
    String of = " of " + s + " " + a;
    is("light" + of, x.light(s - 1, 15, 0), 0);
    is("light beyond" + of, x.light(s, 15, 0), BAD);
    is("board" + of, x.board(s - 1, 3, 0, 0), NULL);
    is("board beyond" + of, x.board(s, 3, 0, 0), BAD);
    is("rest" + of, x.rest(s - 1, 1500), 1500);
    is("rest beyond" + of, x.rest(s, 1500), BAD);
    is("spot" + of, x.spot(s - 1, 0), 0);
    is("spot beyond" + of, x.spot(s, 0), BAD_FAR);
    is("table" + of, x.table(s - 1, a - 1, 0), 0);
    is("table beyond the spots" + of, x.table(s, a - 1, 0), BAD_FAR);
    is("table beyond the parts" + of, x.table(s - 1, a, 0), BAD_FAR);
    is("told" + of, x.told(s - 1, a - 1, 0), 0);
    is("told beyond the spots" + of, x.told(s, a - 1, 0), BAD_FAR);
    is("told beyond the parts" + of, x.told(s - 1, a, 0), BAD_FAR);
    is("poke" + of, x.poke(a - 1, 1, 3, 0, 0), NULL);
    is("poke beyond" + of, x.poke(a, 1, 3, 0, 0), BAD);
    is("dead" + of, x.dead(a - 1, false), a == 1 ? BAD : 0);
    is("dead beyond" + of, x.dead(a, false), BAD);
    isBend("the last" + of, x, a - 1, 0, 1);
    isBend("beyond" + of, x, a, BAD_FARTHEST, BAD_FARTHEST);
    is("whole" + of, x.whole(a - 1), 0);
    is("whole beyond" + of, x.whole(a), BAD_FAR);
    is("nearest" + of, x.nearest(a - 1), 0);
    is("nearest beyond" + of, x.nearest(a), BAD_FAR);
    is("units" + of, x.units(a - 1, 0), 0);
    is("units beyond" + of, x.units(a, 0), BAD_FAR);
    is("state" + of, x.state(a + 2), 0);
    is("state beyond" + of, x.state(a + 3), BAD_FAR);
    is("foretell" + of, x.foretell(s - 1, 0), 0);
    is("foretell beyond" + of, x.foretell(s, 0), BAD_FAR);
  }

  private static void lightsOfABoard() {
    about(0, "Each SPOT has a BOARD of 16 lights (0 .. 255; 0 at first), light i at x = i modulo 4, y = i by 4.");
    for (int s = 0; s < 8; s++) {
      StillStars x = mirror(8, 1);
      for (int i = 0; i < 16; i++) {
        is("at first " + s + " " + i, x.light(s, i, 255), 0);
        is("place of " + s + " " + i, x.spot(s, 2), s % 2 == 0 ? 1000 * (i % 4) : 1000 * (i / 4));
        is("light of " + s + " " + i, x.spot(s, 0), 235);
        is("it was the most " + s + " " + i, x.light(s, i, 0), 255);
      }
      is("no other BOARD has light", x.spot((s + 1) % 8, 0), 0);
    }
  }

  private static void dark() {
    about(0, "LIGHT counts as far as it is above DARK (0 .. 255; 20 at first).");
    StillStars first = new StillStars();
    first.light(0, 0, 20);
    is("20 at first", first.spot(0, 0), 0);
    first.light(0, 0, 21);
    is("21 at first", first.spot(0, 0), 1);
    for (int dark : new int[] {0, 1, 20, 128, 254, 255}) {
      StillStars x = new StillStars();
      x.set(0, dark);
      for (int v : new int[] {0, dark - 1, dark, dark + 1, 255}) {
        if (v >= 0 && v <= 255) {
          x.light(1, 9, v);
          is("DARK " + dark + ", light " + v, x.spot(1, 0), v > dark ? v - dark : 0);
        }
      }
    }
    StillStars x = new StillStars();
    x.light(0, 0, 120);
    x.light(0, 1, 1);
    is("a light below DARK takes nothing away", x.spot(0, 0), 100);
    StillStars all = new StillStars();
    lights(all, 3, 4080);
    is("all lights, DARK 20", all.spot(3, 0), 16 * 235);
    all.set(0, 0);
    is("all lights, DARK 0", all.spot(3, 0), 4080);
    all.set(0, 254);
    is("all lights, DARK 254", all.spot(3, 0), 16);
    all.set(0, 255);
    is("all lights, DARK 255", all.spot(3, 0), 0);
  }

  private static void least() {
    about(0, "A SPOT is LOST, if all its LIGHT together is below LEAST (1 .. 4080; 50 at first).");
    for (int least : new int[] {50, 1, 2, 51, 4079, 4080}) {
      StillStars x = new StillStars();
      x.set(0, 0);
      if (least != 50) {
        x.set(1, least);
      }
      for (int spot = 0; spot < 2; spot++) {
        lights(x, spot, least - 1);
        is("LEAST " + least + ", one less", x.spot(spot, 1), 1);
        lights(x, spot, least);
        is("LEAST " + least + ", just it", x.spot(spot, 1), 0);
        lights(x, spot, Math.min(4080, least + 1));
        is("LEAST " + least + ", more", x.spot(spot, 1), 0);
      }
    }
    StillStars x = new StillStars();
    x.set(1, 4080);
    lights(x, 0, 4080);
    is("all light, less by DARK", x.spot(0, 1), 1);
    x.set(1, 16 * 235);
    is("all light is enough", x.spot(0, 1), 0);
    x.set(0, 21);
    is("DARK counts at once", x.spot(0, 1), 1);
  }

  private static void middle() {
    about(0, "MIDDLE: 1000 times the sum of x (of SPOTS 1, 3, 5, 7: of y) times LIGHT, by all its LIGHT.");
    StillStars x = mirror(8, 1);
    for (int s = 0; s < 8; s++) {
      x.light(s, 3, 70);
      is("x 3, y 0 " + s, x.spot(s, 2), s % 2 == 0 ? 3000 : 0);
      x.light(s, 12, 71);
      // 50 at (3, 0), 51 at (0, 3)
      is("and x 0, y 3 " + s, x.spot(s, 2), s % 2 == 0 ? 150000 / 101 : 153000 / 101);
      x.light(s, 12, 20);
      is("at DARK it weighs nothing " + s, x.spot(s, 2), s % 2 == 0 ? 3000 : 0);
    }
    StillStars y = new StillStars();
    y.light(0, 3, 255);
    y.light(0, 0, 21);
    is("705000 by 236 is cut", y.spot(0, 2), 2987);
    y.light(0, 3, 21);
    y.light(0, 0, 255);
    is("3000 by 236 is cut", y.spot(0, 2), 12);
    y.light(0, 3, 0);
    y.light(0, 1, 30);
    y.light(0, 0, 120);
    is("10 by 110", y.spot(0, 2), 90);
    y.set(0, 29);
    is("1 by 92: DARK counts", y.spot(0, 2), 10);
    y.set(0, 30);
    is("0 by 90", y.spot(0, 2), 0);
    for (int s = 0; s < 2; s++) {
      lights(y, s, 4080);
      y.set(0, 0);
      is("all light " + s, y.spot(s, 2), 1500);
    }
  }

  private static void slope() {
    about(0, "SLOPE: MIDDLE less REST (0 .. 3000; 1500 at first).");
    StillStars x = new StillStars();
    x.light(0, 3, 255);
    x.light(1, 3, 255);
    is("the most at first", x.spot(0, 3), 1500);
    is("the least at first", x.spot(1, 3), -1500);
    x.rest(0, 0);
    x.rest(1, 3000);
    is("the most", x.spot(0, 3), 3000);
    is("the least", x.spot(1, 3), -3000);
    x.rest(0, 3000);
    x.rest(1, 0);
    is("none, at 3000", x.spot(0, 3), 0);
    is("none, at 0", x.spot(1, 3), 0);
    x.rest(0, 2999);
    x.rest(1, 1);
    is("1", x.spot(0, 3), 1);
    is("-1", x.spot(1, 3), -1);
  }

  private static void number() {
    about(0, "THE TABLE: how much a SPOT's SLOPE is more by one unit of a PART (-9 .. 9; 0 at first).");
    StillStars first = mirror(8, 5);
    for (int s = 0; s < 8; s++) {
      for (int p = 0; p < 5; p++) {
        is("at first " + s + " " + p, first.told(s, p, 0), 0);
      }
    }
    StillStars x = mirror(1, 1);
    slope(x, 0, 9);
    is("9", x.table(0, 0, 9), 0);
    isBend("one unit tells 9", x, 0, 1, 1);
    is("-9", x.table(0, 0, -9), 9);
    isBend("one unit tells -9", x, 0, -1, 1);
    is("not 10", x.table(0, 0, 10), BAD_FAR);
    is("not -10", x.table(0, 0, -10), BAD_FAR);
    is("-9 still", x.told(0, 0, 0), -9);
  }

  private static void numberByPokes() {
    about(0, "A POKE of a PART by b (1 .. 99) tells a change of each SPOT's SLOPE (-999 .. 999): THE TABLE is the sum"
        + " of these of all its POKES by the sum of their b, held to -9 .. 9.");
    int[][] due = {{9, 1, 9}, {9, 1, 10}, {9, 1, 999}, {-9, 1, -9}, {-9, 1, -10}, {-9, 1, -999}, {0, 1, 0}, {8, 1, 8},
      {9, 10, 99}, {-9, 10, -99}, {8, 10, 89}, {-8, 10, -89}, {0, 10, 9}, {0, 10, -9}, {1, 10, 10}, {-1, 10, -10},
      {9, 99, 999}, {-9, 99, -999}, {9, 99, 891}, {8, 99, 890}, {-8, 99, -890}, {0, 99, 98}, {0, 99, -98}, {1, 99, 99},
      {0, 1, 999, 99, -999}, {0, 1, 9, 99, 0}, {1, 2, 3, 2, 4}, {-1, 2, -3, 2, -4}, {0, 1, 5, 1, -6}, {0, 1, -5, 1, 6},
      {9, 1, 999, 99, 1}, {5, 1, 999, 99, -499}, {-5, 1, -999, 99, 499}, {4, 1, 9, 1, 0}, {9, 1, 10, 1, 8},
      {9, 1, 11, 1, 8}, {9, 1, 11, 1, 7}, {8, 1, 10, 1, 7}};
    for (int[] d : due) {
      int[] pairs = java.util.Arrays.copyOfRange(d, 1, d.length);
      is("the number of " + java.util.Arrays.toString(pairs), poked(pairs).told(0, 0, 0), d[0]);
    }
    is("nine of the most", poked(nine(99, 999)).told(0, 0, 0), 9);
    is("nine of the least", poked(nine(99, -999)).told(0, 0, 0), -9);
    is("882 by 891", poked(nine(99, 98)).told(0, 0, 0), 0);
    is("-882 by 891", poked(nine(99, -98)).told(0, 0, 0), 0);
    is("891 by 891", poked(nine(99, 99)).told(0, 0, 0), 1);
  }

  private static int[] nine(int by, int change) {
    int[] pairs = new int[18];
    for (int i = 0; i < 18; i += 2) {
      pairs[i] = by;
      pairs[i + 1] = change;
    }
    return pairs;
  }

  private static void doubt() {
    about(0, "DOUBT: the greatest, less the least change by b (each cut) of its POKES.");
    int[][] due = {{0, 1, 5}, {0, 1, -999}, {0, 2, 1, 2, -1}, {2, 2, 3, 2, -3}, {1, 2, 3, 2, -1}, {1998, 1, 999, 1, -999},
      {1998, 1, -999, 1, 999}, {999, 1, 999, 1, 0}, {999, 1, 0, 1, -999}, {989, 99, 999, 1, 999}, {4, 1, -3, 1, -7},
      {8, 1, 1, 1, 9, 1, 5}, {8, 1, 5, 1, 9, 1, 1}, {0, 1, 7, 2, 14, 3, 23}, {20, 99, 999, 99, -999}, {0, 99, 98, 99, -98},
      {1, 99, 99, 99, -98}};
    for (int[] d : due) {
      int[] pairs = java.util.Arrays.copyOfRange(d, 1, d.length);
      is("DOUBT of " + java.util.Arrays.toString(pairs), poked(pairs).told(0, 0, 1), d[0]);
    }
    is("nine alike", poked(nine(1, 999)).told(0, 0, 1), 0);
  }

  // ---- promises 1, 2

  private static void newObject() {
    about(1, "Four SPOTS, two PARTS; all as at first.");
    counts(new StillStars(), 4, 2);
    StillStars x = new StillStars();
    for (int what = 0; what < 7; what++) {
      is("set " + what, x.set(what, LOW[what]), FIRST[what]);
    }
    asAtFirst(x, 4, 2);
    for (int layer = 0; layer < 3; layer++) {
      is("wind " + layer, x.wind(layer, 1), 0);
      for (int i = 0; i < 32; i++) {
        is("cell " + layer + " " + i, x.cell(layer, i, 1), 0);
      }
    }
    for (int sheet = 0; sheet < 4; sheet++) {
      is("sheet " + sheet, x.drop(sheet), NULL);
    }
    is("a loop of 1 and 1", x.unsteady(0, 100), NONE);
  }

  private static void asAtFirst(StillStars x, int s, int a) {
    for (int spot = 0; spot < s; spot++) {
      is("rest " + spot, x.rest(spot, 0), 1500);
      for (int i = 0; i < 16; i++) {
        is("light " + spot + " " + i, x.light(spot, i, 0), 0);
      }
      for (int p = 0; p < a; p++) {
        is("told " + spot + " " + p, x.told(spot, p, 0), 0);
        is("doubt " + spot + " " + p, x.told(spot, p, 1), NONE_FAR);
      }
    }
    for (int p = 1; p < a; p++) {
      is("dead " + p, x.dead(p, false), 0);
    }
    for (int i = 0; i < a + 3; i++) {
      is("state " + i, x.state(i), 0);
    }
    is("the log", x.log(0, 0), BAD_FAR);
  }

  /** All that can be changed is changed: the LOG full, TIP 7, in SEEK. */
  private static StillStars used(int s, int a) {
    StillStars x = mirror(s, a);
    Due.row(x, 0, SHORTS, 9, 8, 7, 6, 5, 4, 3, 2);
    for (int spot = 0; spot < s; spot++) {
      for (int i = 0; i < 16; i++) {
        x.light(spot, i, 200);
      }
      x.rest(spot, 3000);
    }
    for (int p = 0; p < a; p++) {
      x.poke(p, 1, 0, SHORTS, 0);
      x.units(p, 7);
      x.dead(p, true);
    }
    x.shed();
    for (int p = 0; p < a; p++) {
      x.units(p, 5);
    }
    x.frames(31);
    x.start();
    return x;
  }

  private static void mirrorAsAtFirst() {
    about(2, "S SPOTS and A PARTS, all of them as at first, with THE TABLE, UNITS, TIP, OPEN, an empty LOG");
    int[][] sizes = {{1, 1}, {4, 2}, {8, 5}, {1, 5}, {8, 1}};
    for (int[] to : sizes) {
      for (int[] from : sizes) {
        StillStars x = used(from[0], from[1]);
        is("mirror " + to[0] + " " + to[1], x.mirror(to[0], to[1]), 1);
        asAtFirst(x, to[0], to[1]);
      }
    }
    StillStars x = used(8, 5);
    x.mirror(1, 1);
    x.mirror(8, 5);
    asAtFirst(x, 8, 5);
    StillStars y = used(2, 2);
    y.mirror(2, 2);
    is("the next POKE is the first", y.poke(1, 2, 0, SHORTS, 0), 1);
    is("and counts alone", y.told(0, 1, 0), 4);
  }

  private static void mirrorInEachState() {
    about(2, "OPEN");
    StillStars x = new StillStars();
    x.set(2, 8);
    x.start();
    x.frames(2);
    x.mirror(4, 2);
    is("behind SEEK", x.start(), 1);
    is("its FRAMES are forgotten", x.frames(2), 1);
    is("the third since", x.frames(1), 2);
    x.mirror(4, 2);
    is("behind HELD", x.start(), 1);
    x.frames(3);
    x.set(2, 0);
    is("LOST", x.frames(20), 3);
    x.mirror(4, 2);
    is("behind LOST", x.start(), 1);
    x.set(2, 8);
    x.frames(3);
    x.set(2, 0);
    is("20 FRAMES anew", x.frames(20), 3);
    is("and then OPEN", x.frames(1), 0);
  }

  private static void mirrorStays() {
    about(2, "(LIMIT, NEAR, DARK, LEAST, FEW, GAIN, LOOP, LAYERS, SHEETS stay): 1.");
    for (boolean high : new boolean[] {false, true}) {
      StillStars x = new StillStars();
      for (int what = 0; what < 6; what++) {
        x.set(what, high ? HIGH[what] : LOW[what]);
      }
      for (int layer = 0; layer < 3; layer++) {
        x.wind(layer, high ? 31 : -31);
        x.cell(layer, 0, high ? 99 : -99);
        x.cell(layer, 31, high ? 98 : -98);
      }
      Due.row(x, 0, BYTES, 1, 1);
      Due.row(x, 1, SHORTS, -1, 2, 3);
      x.sheet(2, INTS, 0);
      x.loop(0, 0, BYTES, 0, 2);
      x.loop(1, 1, SHORTS, 0, 1);
      is("mirror", x.mirror(8, 5), 1);
      for (int what = 0; what < 6; what++) {
        is("set " + what, x.set(what, FIRST[what]), high ? HIGH[what] : LOW[what]);
      }
      for (int layer = 0; layer < 3; layer++) {
        is("wind " + layer, x.wind(layer, 0), high ? 31 : -31);
        is("cell " + layer + " 0", x.cell(layer, 0, 0), high ? 99 : -99);
        is("cell " + layer + " 31", x.cell(layer, 31, 0), high ? 98 : -98);
      }
      // 100 (1 + z) - g
      is("D: on the ring", x.steady(0), 0);
      is("N: within it", x.steady(1), 1);
      is("an item", x.item(0, BYTES, 1, 2), 1);
      is("its sheet", x.drop(0), 2);
      is("a sheet", x.drop(1), 3);
      is("an empty sheet", x.drop(2), 0);
      is("none", x.drop(3), NULL);
    }
  }

  private static void mirrorBad() {
    about(2, "BAD.");
    StillStars x = used(3, 3);
    outside("mirror of SPOTS", 1, 8, BAD, v -> x.mirror(v, 3));
    outside("mirror of PARTS", 1, 5, BAD, v -> x.mirror(3, v));
    outside("mirror of both", 1, 8, BAD, v -> x.mirror(v, v < 0 ? 0 : 6));
    is("three SPOTS still", x.rest(2, 1), 3000);
    is("no more", x.rest(3, 1), BAD);
    is("UNITS still", x.state(2), 5);
    is("TIP still", x.state(3), 7);
    is("SEEK still", x.state(4), 1);
    is("FRAMES still", x.state(5), 31);
  }

  // ---- promises 3, 4

  private static void light() {
    about(3, "Light i of a BOARD: what it was.");
    StillStars x = mirror(8, 1);
    for (int s = 0; s < 8; s++) {
      for (int i = 0; i < 16; i++) {
        is("was 0: " + s + " " + i, x.light(s, i, s * 16 + i + 128), 0);
      }
    }
    for (int s = 0; s < 8; s++) {
      for (int i = 0; i < 16; i++) {
        is("was its own: " + s + " " + i, x.light(s, i, 255 * (i % 2)), s * 16 + i + 128);
        is("was at an end: " + s + " " + i, x.light(s, i, 1), 255 * (i % 2));
      }
    }
  }

  private static void lightBad() {
    about(3, "BAD.");
    StillStars x = new StillStars();
    x.light(3, 15, 77);
    outside("light of a SPOT", 0, 3, BAD, v -> x.light(v, 15, 1));
    outside("light i", 0, 15, BAD, v -> x.light(3, v, 1));
    outside("light of a number", 0, 255, BAD, v -> x.light(3, 15, v));
    is("it is as it was", x.light(3, 15, 0), 77);
  }

  private static void board() {
    about(4, "All 16 lights of a BOARD from a SHEET, taken as a row of a LANE, from one on: 1.");
    for (int lane = 0; lane < 3; lane++) {
      StillStars x = mirror(8, 1);
      x.sheet(lane, lane, 40);
      for (int i = 0; i < 40; i++) {
        x.item(lane, lane, i, 6 * i);
      }
      for (int from : new int[] {0, 1, 23, 24}) {
        is("board from " + from, x.board(7, lane, lane, from), 1);
        for (int i = 0; i < 16; i++) {
          is("light " + i, x.light(7, i, 255), 6 * (from + i));
        }
      }
      is("from 25", x.board(7, lane, lane, 25), INDEX);
      x.sheet(3, lane, 16);
      is("of 16 items", x.board(0, 3, lane, 0), 1);
      is("of 16 from 1", x.board(0, 3, lane, 1), INDEX);
      x.sheet(3, lane, 15);
      is("of 15 items", x.board(0, 3, lane, 0), INDEX);
      x.sheet(3, lane, 0);
      is("of none", x.board(0, 3, lane, 0), INDEX);
      is("another BOARD has none", x.spot(6, 0), 0);
    }
  }

  private static void boardRefuses() {
    about(4, "BAD; NULL; CAST; INDEX; NOT: one is not 0 .. 255");
    for (int lane = 1; lane < 3; lane++) {
      StillStars x = new StillStars();
      int row = lane;
      x.sheet(0, row, 18);
      for (int i = 0; i < 18; i++) {
        int[] wrong = {-1, 256, -256, row == SHORTS ? -32768 : MIN, row == SHORTS ? 32767 : MAX};
        for (int v : wrong) {
          x.item(0, row, i, v);
          boolean taken = i >= 1 && i <= 16;
          is("item " + i + " is " + v, x.board(2, 0, row, 1), taken ? NOT : 1);
        }
        for (int v : new int[] {0, 255}) {
          x.item(0, row, i, v);
          is("item " + i + " is " + v, x.board(2, 0, row, 1), 1);
        }
      }
      outside("board of a SPOT", 0, 3, BAD, v -> x.board(v, 0, row, 1));
      outside("board of a SHEET", 0, 3, BAD, v -> x.board(2, v, row, 1));
      outside("board of a LANE", 0, 2, BAD, v -> x.board(2, 0, v, 1));
      outside("board from", 0, 2, INDEX, v -> x.board(2, 0, row, v));
      is("no SHEET", x.board(2, 1, row, 1), NULL);
      is("bytes", x.board(2, 0, BYTES, 1), CAST);
      is("the other", x.board(2, 0, 3 - row, 1), CAST);
      is("still as it was", x.light(2, 15, 0), 255);
    }
  }

  private static void boardOfBytes() {
    about(4, "(bytes: their lowest 8 bits as 0 .. 255).");
    StillStars x = new StillStars();
    x.sheet(0, BYTES, 16);
    for (int v = 0; v < 256; v += 16) {
      for (int i = 0; i < 16; i++) {
        x.item(0, BYTES, i, i % 2 == 0 ? v + i : v + i - 256);
      }
      is("bytes from " + v, x.board(v / 64, 0, BYTES, 0), 1);
      for (int i = v % 64 / 16; i < 16; i += 4) {
        is("byte " + (v + i), x.light(v / 64, i, 0), v + i);
      }
    }
    x.item(0, BYTES, 0, -128);
    x.item(0, BYTES, 1, 127);
    x.item(0, BYTES, 2, -1);
    x.board(0, 0, BYTES, 0);
    is("-128", x.light(0, 0, 0), 128);
    is("127", x.light(0, 1, 0), 127);
    is("-1", x.light(0, 2, 0), 255);
  }

  // ---- promises 5 to 7

  private static void set() {
    about(5, "DARK (0), LEAST (1), FEW (2), GAIN (3), LIMIT (4), NEAR (5), STEP (6): what it was.");
    StillStars x = new StillStars();
    for (int what = 0; what < 7; what++) {
      is("first " + what, x.set(what, LOW[what]), FIRST[what]);
      is("lowest " + what, x.set(what, HIGH[what]), LOW[what]);
      is("highest " + what, x.set(what, HIGH[what] - 1), HIGH[what]);
    }
    for (int what = 0; what < 7; what++) {
      is("each has its own " + what, x.set(what, LOW[what]), HIGH[what] - 1);
    }
  }

  private static void setBad() {
    about(5, "BAD less 10000 (-10001).");
    StillStars x = new StillStars();
    outside("set of what", 0, 6, BAD_FAR, v -> x.set(v, 1));
    for (int what = 0; what < 7; what++) {
      int one = what;
      outside("set " + one, LOW[one], HIGH[one], BAD_FAR, v -> x.set(one, v));
      is("as it was " + one, x.set(one, LOW[one]), FIRST[one]);
    }
  }

  private static void rest() {
    about(6, "REST of a SPOT: what it was.");
    StillStars x = mirror(8, 1);
    for (int s = 0; s < 8; s++) {
      is("first " + s, x.rest(s, 3000), 1500);
      is("highest " + s, x.rest(s, 0), 3000);
      is("lowest " + s, x.rest(s, s + 1), 0);
    }
    for (int s = 0; s < 8; s++) {
      is("each has its own " + s, x.rest(s, 1500), s + 1);
    }
    is("a LOST SPOT has one too", x.spot(0, 1), 1);
  }

  private static void restBad() {
    about(6, "BAD.");
    StillStars x = new StillStars();
    outside("rest of a SPOT", 0, 3, BAD, v -> x.rest(v, 7));
    outside("rest of a number", 0, 3000, BAD, v -> x.rest(3, v));
    is("as it was", x.rest(3, 7), 1500);
  }

  private static void spot() {
    about(7, "Of a SPOT: 0 its LIGHT, 1 whether LOST, 2 MIDDLE (NONE: LOST), 3 SLOPE (NOT less 10000, -10002: LOST).");
    StillStars x = new StillStars();
    int[] dark = {0, 1, NONE, NOT_FAR};
    int[] dim = {49, 1, NONE, NOT_FAR};
    int[] just = {50, 0, 3000, 1500};
    for (int s = 0; s < 4; s++) {
      answers(x, s, dark);
      x.light(s, 15, 69);
      answers(x, s, dim);
      x.light(s, 15, 70);
      answers(x, s, just);
      x.rest(s, 3000);
      answers(x, s, new int[] {50, 0, 3000, 0});
    }
    x.set(1, 51);
    answers(x, 0, new int[] {50, 1, NONE, NOT_FAR});
  }

  private static void answers(StillStars x, int spot, int[] due) {
    for (int what = 0; what < 4; what++) {
      is("spot " + spot + " " + what, x.spot(spot, what), due[what]);
    }
  }

  private static void spotBad() {
    about(7, "BAD less 10000.");
    StillStars x = new StillStars();
    lights(x, 3, 4080);
    for (int what = 0; what < 4; what++) {
      int one = what;
      outside("spot of a SPOT, " + one, 0, 3, BAD_FAR, v -> x.spot(v, one));
    }
    outside("spot of what", 0, 3, BAD_FAR, v -> x.spot(3, v));
    outside("a LOST spot of what", 0, 3, BAD_FAR, v -> x.spot(0, v));
  }

  // ---- promises 8 to 10

  private static void table() {
    about(8, "THE TABLE's number: what it was (POKES of that PART are forgotten).");
    StillStars x = mirror(2, 2);
    Due.row(x, 0, INTS, 999, -999, 4, 4);
    x.poke(0, 1, 0, INTS, 0);
    x.poke(0, 1, 0, INTS, 2);
    x.poke(1, 1, 0, INTS, 2);
    is("of POKES", x.table(0, 0, 9), 9);
    is("no POKES", x.told(0, 0, 1), NONE_FAR);
    is("of another SPOT neither", x.told(1, 0, 1), NONE_FAR);
    is("whose number stays", x.told(1, 0, 0), -9);
    is("another PART has its POKE", x.told(0, 1, 1), 0);
    is("and its number", x.told(0, 1, 0), 4);
    is("the next is the first", x.poke(0, 2, 0, INTS, 2), 1);
    is("of it alone", x.told(0, 0, 0), 2);
    is("DOUBT of it alone", x.told(1, 0, 1), 0);
    is("the same number", x.table(0, 0, 2), 2);
    is("forgets them too", x.told(0, 0, 1), NONE_FAR);
    is("lowest", x.table(1, 1, -9), 4);
    is("it was the lowest", x.table(1, 1, 9), -9);
    is("it was the highest", x.table(1, 1, 0), 9);
  }

  private static void tableBad() {
    about(8, "BAD less 10000.");
    StillStars x = new StillStars();
    Due.row(x, 0, INTS, 4, 4, 4, 4);
    x.poke(1, 1, 0, INTS, 0);
    outside("table of a SPOT", 0, 3, BAD_FAR, v -> x.table(v, 1, 1));
    outside("table of a PART", 0, 1, BAD_FAR, v -> x.table(3, v, 1));
    outside("table of a number", -9, 9, BAD_FAR, v -> x.table(3, 1, v));
    is("as it was", x.told(3, 1, 0), 4);
    is("its POKE is not forgotten", x.told(3, 1, 1), 0);
  }

  private static void poke() {
    about(9, "A POKE: S items of a SHEET, taken as a row of a LANE, from one on: how many POKES that PART has.");
    for (int s = 1; s <= 8; s++) {
      for (int lane = 0; lane < 3; lane++) {
        StillStars x = mirror(s, 5);
        x.sheet(1, lane, s);
        for (int i = 0; i < s; i++) {
          x.item(1, lane, i, i - 4);
        }
        is("just S items", x.poke(4, 1, 1, lane, 0), 1);
        for (int i = 0; i < s; i++) {
          is("of SPOT " + i, x.told(i, 4, 0), i - 4);
        }
        is("from 1", x.poke(4, 1, 1, lane, 1), INDEX);
        x.sheet(1, lane, s - 1);
        is("one less", x.poke(4, 1, 1, lane, 0), INDEX);
        alike(x, 2, lane, 40, 6);
        is("the last S items", x.poke(4, 1, 2, lane, 40 - s), 2);
        is("beyond them", x.poke(4, 1, 2, lane, 41 - s), INDEX);
        is("the first POKE of another PART", x.poke(0, 1, 2, lane, 0), 1);
        is("the sum with the last", x.told(s - 1, 4, 0), (s - 5 + 6) / 2);
      }
    }
  }

  private static void pokeRefuses() {
    about(9, "BAD; NULL; CAST; INDEX; NOT: one is not -999 .. 999;");
    StillStars x = mirror(3, 2);
    for (int lane = 1; lane < 3; lane++) {
      int row = lane;
      x.sheet(row, row, 5);
      for (int i = 0; i < 5; i++) {
        int[] wrong = {1000, -1000, row == SHORTS ? -32768 : MIN, row == SHORTS ? 32767 : MAX};
        for (int v : wrong) {
          x.item(row, row, i, v);
          boolean taken = i >= 1 && i <= 3;
          is("item " + i + " is " + v, x.poke(0, 1, row, row, 1), taken ? NOT : 1);
          x.table(0, 0, 0);
        }
        for (int v : new int[] {999, -999}) {
          x.item(row, row, i, v);
          is("item " + i + " is " + v, x.poke(0, 1, row, row, 1), 1);
          x.table(0, 0, 0);
        }
      }
    }
    x.poke(0, 1, 1, SHORTS, 0);
    outside("poke of a PART", 0, 1, BAD, v -> x.poke(v, 1, 1, SHORTS, 0));
    outside("poke by", 1, 99, BAD, v -> x.poke(0, v, 1, SHORTS, 0));
    outside("poke of a SHEET", 0, 3, BAD, v -> x.poke(0, 1, v, SHORTS, 0));
    outside("poke of a LANE", 0, 2, BAD, v -> x.poke(0, 1, 1, v, 0));
    outside("poke from", 0, 2, INDEX, v -> x.poke(0, 1, 1, SHORTS, v));
    is("no SHEET", x.poke(0, 1, 3, SHORTS, 0), NULL);
    is("another LANE", x.poke(0, 1, 1, INTS, 0), CAST);
    is("one POKE still", x.poke(0, 1, 1, SHORTS, 2), 2);
  }

  private static void pokeFull() {
    about(9, "FULL: 9.");
    StillStars x = mirror(1, 5);
    Due.row(x, 0, INTS, 5, 999);
    for (int p = 0; p < 5; p++) {
      for (int i = 1; i <= 9; i++) {
        is("PART " + p + " POKE " + i, x.poke(p, 1, 0, INTS, 0), i);
      }
      is("PART " + p + " is full", x.poke(p, 99, 0, INTS, 1), FULL);
      is("still", x.poke(p, 99, 0, INTS, 1), FULL);
      is("its number stays", x.told(0, p, 0), 5);
      is("its DOUBT too", x.told(0, p, 1), 0);
    }
    x.table(0, 3, 5);
    is("forgotten", x.poke(3, 1, 0, INTS, 1), 1);
    is("PART 2 is full still", x.poke(2, 1, 0, INTS, 1), FULL);
    x.mirror(1, 5);
    is("a new mirror", x.poke(2, 1, 0, INTS, 1), 1);
  }

  private static void told() {
    about(10, "Of THE TABLE: 0 the number, 1 DOUBT (NONE less 10000: no POKES).");
    StillStars x = mirror(2, 2);
    is("no number", x.told(1, 1, 0), 0);
    is("no POKES", x.told(1, 1, 1), NONE_FAR);
    x.table(1, 1, 9);
    is("a number", x.told(1, 1, 0), 9);
    is("still no POKES", x.told(1, 1, 1), NONE_FAR);
    Due.row(x, 0, INTS, 0, -999, 0, 999);
    x.poke(1, 1, 0, INTS, 0);
    is("one POKE", x.told(1, 1, 1), 0);
    is("held", x.told(1, 1, 0), -9);
    x.poke(1, 99, 0, INTS, 2);
    is("999 by 99 less -999", x.told(1, 1, 1), 1009);
    is("0 by 100", x.told(1, 1, 0), 0);
    is("SPOT 0 has no DOUBT", x.told(0, 1, 1), 0);
    is("PART 0 has no POKES", x.told(1, 0, 1), NONE_FAR);
    is("the third still", x.poke(1, 1, 0, INTS, 0), 3);
  }

  private static void toldBad() {
    about(10, "BAD less 10000.");
    StillStars x = new StillStars();
    for (int what = 0; what < 2; what++) {
      int one = what;
      outside("told of a SPOT, " + one, 0, 3, BAD_FAR, v -> x.told(v, 1, one));
      outside("told of a PART, " + one, 0, 1, BAD_FAR, v -> x.told(3, v, one));
    }
    outside("told of what, no POKES", 0, 1, BAD_FAR, v -> x.told(3, 1, v));
  }
}
