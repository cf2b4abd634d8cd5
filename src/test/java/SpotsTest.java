/** Promises 1 to 7: a new object, mirror, light, board, set, rest, spot. */
public final class SpotsTest {
  private static final Due due = new Due("SpotsTest");
  private static final int OFF = -10001;
  private static final int LEAST_INT = Integer.MIN_VALUE, MOST_INT = Integer.MAX_VALUE;

  public static void main(String[] args) {
    newObject();
    mirror();
    mirrorKeeps();
    light();
    board();
    set();
    rest();
    spotLight();
    spotMiddle();
    due.end();
  }

  private static void newObject() {
    StillStars x = new StillStars();
    int[] first = {20, 50, 1, 50, 40, 30, 4};
    for (int what = 0; what < 7; what++) {
      due.is("1 set " + what, x.set(what, first[what]), first[what]);
    }
    for (int s = 0; s < 4; s++) {
      due.is("1 rest " + s, x.rest(s, 1500), 1500);
      for (int i = 0; i < 16; i++) {
        due.is("1 light " + s + " " + i, x.light(s, i, 0), 0);
      }
      for (int p = 0; p < 2; p++) {
        due.is("1 told " + s + " " + p, x.told(s, p, 0), 0);
        due.is("1 doubt " + s + " " + p, x.told(s, p, 1), -10004);
      }
    }
    due.is("1 four spots", x.rest(4, 0), -1);
    due.is("1 two parts", x.whole(2), OFF);
    due.is("1 dead(1)", x.dead(1, false), 0);
    for (int i = 0; i < 5; i++) {
      due.is("1 state " + i, x.state(i), 0);
    }
    due.is("1 log", x.log(0, 0), OFF);
    for (int l = 0; l < 3; l++) {
      due.is("1 wind " + l, x.wind(l, 0), 0);
      for (int i = 0; i < 32; i++) {
        due.is("1 cell " + l + " " + i, x.cell(l, i, 0), 0);
      }
    }
    for (int sheet = 0; sheet < 4; sheet++) {
      due.is("1 drop " + sheet, x.drop(sheet), -11);
    }
    due.is("1 loop", x.unsteady(0, 100), -4);
  }

  private static void mirror() {
    StillStars x = new StillStars();
    int[][] bad = {{0, 1}, {9, 1}, {1, 0}, {1, 6}, {-1, 1}, {1, -1}, {LEAST_INT, 1}, {1, MOST_INT}};
    Due.row(x, 0, 2, 5, 6, 7, 8);
    x.light(3, 15, 7);
    x.rest(3, 9);
    x.poke(1, 1, 0, 2, 0);
    x.dead(1, true);
    x.units(0, 5);
    x.units(1, 4);
    x.shed();
    x.frames(7);
    x.start();
    for (int[] b : bad) {
      due.is("2 mirror " + b[0] + " " + b[1], x.mirror(b[0], b[1]), -1);
    }
    due.is("2 refused: tip", x.state(2), 4);
    due.is("2 refused: state", x.state(3), 1);
    due.is("2 refused: frames", x.state(4), 7);
    due.is("2 refused: log", x.log(6, 1), 4);
    due.is("2 refused: table", x.told(3, 1, 0), 8);
    due.is("2 refused: light", x.light(3, 15, 7), 7);
    due.is("2 mirror(4, 2)", x.mirror(4, 2), 1);
    due.is("2 light", x.light(3, 15, 0), 0);
    due.is("2 rest", x.rest(3, 1500), 1500);
    due.is("2 table", x.told(3, 1, 0), 0);
    due.is("2 pokes", x.told(3, 1, 1), -10004);
    due.is("2 poke is the first", x.poke(1, 2, 0, 2, 0), 1);
    due.is("2 poke alone counts", x.told(3, 1, 0), 4);
    due.is("2 dead", x.dead(1, false), 0);
    for (int i = 0; i < 5; i++) {
      due.is("2 state " + i, x.state(i), 0);
    }
    due.is("2 log is empty", x.log(0, 0), OFF);
    due.is("2 mirror(8, 5)", x.mirror(8, 5), 1);
    due.is("2 spot 7", x.spot(7, 0), 0);
    due.is("2 part 4", x.whole(4), 0);
    due.is("2 no part 5", x.whole(5), OFF);
    x.light(7, 3, 200);
    x.table(7, 4, 3);
    x.units(4, 9);
    due.is("2 mirror(1, 1)", x.mirror(1, 1), 1);
    due.is("2 no spot 1", x.spot(1, 0), OFF);
    due.is("2 no part 1", x.whole(1), OFF);
    x.mirror(8, 5);
    due.is("2 spot 7 is new", x.light(7, 3, 0), 0);
    due.is("2 table is new", x.told(7, 4, 0), 0);
    due.is("2 units are new", x.state(4), 0);
  }

  private static void mirrorKeeps() {
    StillStars x = new StillStars();
    int[] other = {11, 22, 3, 44, 55, 66, 7};
    for (int what = 0; what < 7; what++) {
      x.set(what, other[what]);
    }
    Due.row(x, 0, 2, 1, 2);
    x.loop(0, 0, 2, 0, 2);
    x.cell(1, 4, 9);
    x.wind(1, -3);
    x.mirror(2, 3);
    for (int what = 0; what < 7; what++) {
      due.is("2 stays: set " + what, x.set(what, other[what]), other[what]);
    }
    due.is("2 stays: loop", x.unsteady(0, 10), -4);
    due.is("2 stays: loop, at its edge", x.loop(1, 0, 2, 0, 1), 1);
    due.is("2 stays: loop, still steady", x.steady(99), 1);
    due.is("2 stays: loop, 200 z + 200", x.steady(100), 0);
    due.is("2 stays: cell", x.cell(1, 4, 9), 9);
    due.is("2 stays: wind", x.wind(1, -3), -3);
    due.is("2 stays: sheet", x.drop(0), 2);
  }

  private static void light() {
    StillStars x = new StillStars();
    due.is("3 light", x.light(0, 0, 255), 0);
    due.is("3 what it was", x.light(0, 0, 1), 255);
    due.is("3 another", x.light(3, 15, 9), 0);
    due.is("3 that one", x.light(3, 15, 0), 9);
    due.is("3 the first still", x.light(0, 0, 0), 1);
    int[][] bad = {{-1, 0, 0}, {4, 0, 0}, {0, -1, 0}, {0, 16, 0}, {0, 0, -1}, {0, 0, 256},
      {MOST_INT, 0, 0}, {0, LEAST_INT, 0}, {0, 0, LEAST_INT}};
    x.light(0, 0, 77);
    for (int[] b : bad) {
      due.is("3 bad " + b[0] + " " + b[1] + " " + b[2], x.light(b[0], b[1], b[2]), -1);
    }
    due.is("3 refused changes nothing", x.light(0, 0, 0), 77);
  }

  private static void board() {
    StillStars x = new StillStars();
    int[] items = new int[18];
    for (int i = 0; i < 18; i++) {
      items[i] = 10 * i + 1;
    }
    Due.row(x, 0, 1, items);
    Due.row(x, 1, 0, items);
    Due.row(x, 2, 2, items);
    due.is("4 board", x.board(1, 0, 1, 1), 1);
    due.is("4 first", x.light(1, 0, 11), 11);
    due.is("4 last", x.light(1, 15, 161), 161);
    due.is("4 bytes as 0 .. 255", x.board(0, 1, 0, 2), 1);
    due.is("4 byte 171", x.light(0, 15, 171), 171);
    due.is("4 ints", x.board(2, 2, 2, 0), 1);
    due.is("4 int 151", x.light(2, 15, 151), 151);
    x.item(0, 1, 2, 0);
    x.item(0, 1, 3, 255);
    due.is("4 the edges", x.board(1, 0, 1, 2), 1);
    due.is("4 0", x.light(1, 0, 0), 0);
    due.is("4 255", x.light(1, 1, 0), 255);
    due.is("4 board anew", x.board(1, 0, 1, 1), 1);
    x.light(1, 1, 12);
    x.item(1, 0, 2, -1);
    due.is("4 byte -1", x.board(0, 1, 0, 2), 1);
    due.is("4 byte -1 is 255", x.light(0, 0, 255), 255);
    // each refusal, ahead of all that are named behind it
    x.item(0, 1, 17, 256);
    x.item(2, 2, 0, -1);
    due.is("4 bad spot", x.board(4, 3, 0, 99), -1);
    due.is("4 bad spot -1", x.board(-1, 3, 0, 99), -1);
    due.is("4 bad sheet", x.board(0, 4, 0, 99), -1);
    due.is("4 bad sheet -1", x.board(0, -1, 0, 99), -1);
    due.is("4 bad lane", x.board(0, 3, 3, 99), -1);
    due.is("4 bad lane -1", x.board(0, 3, -1, 99), -1);
    due.is("4 null", x.board(0, 3, 0, 99), -11);
    due.is("4 cast", x.board(0, 0, 0, 99), -12);
    due.is("4 cast, shorts as ints", x.board(0, 0, 2, 0), -12);
    due.is("4 index", x.board(0, 0, 1, 3), -13);
    due.is("4 index below 0", x.board(0, 0, 1, -1), -13);
    due.is("4 index far", x.board(0, 0, 1, MOST_INT), -13);
    due.is("4 index far below", x.board(0, 0, 1, LEAST_INT), -13);
    due.is("4 not: 256", x.board(1, 0, 1, 2), -2);
    due.is("4 not: -1", x.board(1, 2, 2, 0), -2);
    due.is("4 refused changes nothing", x.light(1, 0, 11), 11);
    due.is("4 nor the last", x.light(1, 15, 161), 161);
  }

  private static void set() {
    StillStars x = new StillStars();
    int[] low = {0, 1, 0, 0, 1, 0, 1};
    int[] high = {255, 4080, 8, 200, 60, 120, 8};
    int[] first = {20, 50, 1, 50, 40, 30, 4};
    for (int what = 0; what < 7; what++) {
      due.is("5 low " + what, x.set(what, low[what]), first[what]);
      due.is("5 high " + what, x.set(what, high[what]), low[what]);
      due.is("5 below " + what, x.set(what, low[what] - 1), OFF);
      due.is("5 above " + what, x.set(what, high[what] + 1), OFF);
      due.is("5 far " + what, x.set(what, LEAST_INT), OFF);
      due.is("5 refused changes nothing " + what, x.set(what, first[what]), high[what]);
    }
    due.is("5 what -1", x.set(-1, 1), OFF);
    due.is("5 what 7", x.set(7, 1), OFF);
    due.is("5 what far", x.set(LEAST_INT, 1), OFF);
  }

  private static void rest() {
    StillStars x = new StillStars();
    Due.shine(x, 2, 3);
    due.is("6 slope", x.spot(2, 3), 1500);
    due.is("6 rest 0", x.rest(2, 0), 1500);
    due.is("6 slope from 0", x.spot(2, 3), 3000);
    due.is("6 rest 3000", x.rest(2, 3000), 0);
    due.is("6 slope from 3000", x.spot(2, 3), 0);
    due.is("6 middle is the same", x.spot(2, 2), 3000);
    int[][] bad = {{-1, 0}, {4, 0}, {0, -1}, {0, 3001}, {LEAST_INT, 0}, {2, MOST_INT}};
    for (int[] b : bad) {
      due.is("6 bad " + b[0] + " " + b[1], x.rest(b[0], b[1]), -1);
    }
    due.is("6 refused changes nothing", x.rest(2, 1), 3000);
    due.is("6 another has its own", x.rest(1, 1), 1500);
  }

  private static void spotLight() {
    StillStars x = new StillStars();
    x.light(0, 3, 20);
    due.is("7 at DARK", x.spot(0, 0), 0);
    x.light(0, 3, 21);
    due.is("7 above DARK", x.spot(0, 0), 1);
    x.light(0, 4, 68);
    due.is("7 light 49", x.spot(0, 0), 49);
    due.is("7 lost below LEAST", x.spot(0, 1), 1);
    due.is("7 no middle", x.spot(0, 2), -4);
    due.is("7 no slope", x.spot(0, 3), -10002);
    x.light(0, 4, 69);
    due.is("7 not lost at LEAST", x.spot(0, 1), 0);
    due.is("7 middle 3 / 50", x.spot(0, 2), 60);
    due.is("7 slope", x.spot(0, 3), -1440);
    x.set(0, 0);
    due.is("7 DARK 0", x.spot(0, 0), 90);
    x.set(0, 255);
    due.is("7 DARK 255", x.spot(0, 0), 0);
    x.set(0, 0);
    for (int i = 0; i < 16; i++) {
      x.light(1, i, 255);
    }
    x.set(1, 4080);
    due.is("7 all light", x.spot(1, 0), 4080);
    due.is("7 not lost with all", x.spot(1, 1), 0);
    due.is("7 in the middle", x.spot(1, 2), 1500);
    x.set(0, 1);
    due.is("7 all but a little", x.spot(1, 0), 4064);
    due.is("7 lost then", x.spot(1, 1), 1);
    x.set(0, 0);
    x.set(1, 1);
    due.is("7 no light, LEAST 1", x.spot(2, 1), 1);
    x.light(2, 0, 1);
    due.is("7 one light, LEAST 1", x.spot(2, 1), 0);
    due.is("7 middle 0", x.spot(2, 2), 0);
  }

  private static void spotMiddle() {
    StillStars x = new StillStars();
    x.mirror(8, 1);
    for (int s = 0; s < 8; s++) {
      x.light(s, 6, 120);
      x.light(s, 15, 220);
      due.is("7 light " + s, x.spot(s, 0), 300);
      // x: (2 * 100 + 3 * 200) / 300; y: (1 * 100 + 3 * 200) / 300
      due.is("7 middle " + s, x.spot(s, 2), s % 2 == 0 ? 2666 : 2333);
      due.is("7 slope " + s, x.spot(s, 3), s % 2 == 0 ? 1166 : 833);
    }
    int[][] bad = {{-1, 0}, {8, 0}, {0, -1}, {0, 4}, {LEAST_INT, MOST_INT}};
    for (int[] b : bad) {
      due.is("7 bad " + b[0] + " " + b[1], x.spot(b[0], b[1]), OFF);
    }
  }
}
