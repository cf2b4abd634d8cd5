/** Promises 31 to 34: sheet, drop, item, layer. */
public final class SheetsTest {
  private static final Due due = new Due("SheetsTest");
  private static final int LEAST_INT = Integer.MIN_VALUE, MOST_INT = Integer.MAX_VALUE;

  public static void main(String[] args) {
    sheet();
    sheetRefuses();
    drop();
    item();
    itemRefuses();
    layer();
    layerRefuses();
    due.end();
  }

  private static void sheet() {
    StillStars x = new StillStars();
    for (int sheet = 0; sheet < 4; sheet++) {
      for (int lane = 0; lane < 3; lane++) {
        due.is("31 sheet", x.sheet(sheet, lane, 40), 40);
        due.is("31 its lane", x.item(sheet, lane, 39, 1), 1);
        due.is("31 no other lane", x.item(sheet, (lane + 1) % 3, 39, 1), -12);
      }
    }
    due.is("31 empty", x.sheet(0, 1, 0), 0);
    due.is("31 it is there", x.item(0, 1, 0, 1), -13);
    // a new row holds nothing of the one before
    x.mirror(1, 1);
    Due.row(x, 1, 2, 7, 7, 7);
    due.is("31 a new row", x.sheet(1, 2, 2), 2);
    x.poke(0, 1, 1, 2, 0);
    due.is("31 it is of 0", x.told(0, 0, 0), 0);
    due.is("31 it ends", x.item(1, 2, 2, 0), -13);
  }

  private static void sheetRefuses() {
    StillStars x = new StillStars();
    due.is("31 bad sheet", x.sheet(4, 0, -1), -1);
    due.is("31 bad sheet -1", x.sheet(-1, 0, -1), -1);
    due.is("31 bad lane", x.sheet(0, 3, -1), -1);
    due.is("31 bad lane -1", x.sheet(0, -1, -1), -1);
    due.is("31 bad 41", x.sheet(0, 0, 41), -1);
    due.is("31 bad far", x.sheet(0, 0, MOST_INT), -1);
    due.is("31 size", x.sheet(0, 0, -1), -14);
    due.is("31 size far", x.sheet(0, 0, LEAST_INT), -14);
    due.is("31 refused makes nothing", x.drop(0), -11);
    Due.row(x, 0, 1, 5, 6);
    x.sheet(0, 0, -1);
    x.sheet(0, 0, 41);
    due.is("31 refused leaves the row", x.item(0, 1, 1, 6), 1);
    due.is("31 with its length", x.drop(0), 2);
  }

  private static void drop() {
    StillStars x = new StillStars();
    due.is("32 bad 4", x.drop(4), -1);
    due.is("32 bad -1", x.drop(-1), -1);
    due.is("32 bad far", x.drop(LEAST_INT), -1);
    due.is("32 null", x.drop(3), -11);
    x.sheet(3, 2, 40);
    x.sheet(2, 2, 0);
    due.is("32 drop", x.drop(3), 40);
    due.is("32 nothing", x.drop(3), -11);
    due.is("32 an empty one", x.drop(2), 0);
    due.is("32 and nothing", x.drop(2), -11);
    due.is("32 no items", x.item(3, 2, 0, 0), -11);
  }

  /** What an item became is seen by a POKE of one SPOT by 1 (THE TABLE holds it to -9 .. 9). */
  private static int poked(StillStars x, int lane, int i) {
    x.mirror(1, 1);
    return x.poke(0, 1, 0, lane, i) == 1 ? x.told(0, 0, 0) : -2;
  }

  private static void item() {
    StillStars x = new StillStars();
    int[] bits = {8, 16, 32};
    for (int lane = 0; lane < 3; lane++) {
      x.sheet(0, lane, 3);
      due.is("33 item", x.item(0, lane, 1, -4), 1);
      due.is("33 it is -4", poked(x, lane, 1), -4);
      due.is("33 the one ahead is 0", poked(x, lane, 0), 0);
      due.is("33 the one behind is 0", poked(x, lane, 2), 0);
      if (lane < 2) {
        x.item(0, lane, 2, (1 << bits[lane]) + 3);
        due.is("33 its lowest bits", poked(x, lane, 2), 3);
        x.item(0, lane, 2, (1 << bits[lane]) - 5);
        due.is("33 its lowest bits, below 0", poked(x, lane, 2), -5);
        x.item(0, lane, 2, LEAST_INT);
        due.is("33 none of its lowest bits", poked(x, lane, 2), 0);
      } else {
        x.item(0, lane, 2, 65536 + 3);
        due.is("33 an int is whole", poked(x, lane, 2), -2);
      }
    }
    x.sheet(0, 1, 40);
    x.sheet(1, 1, 40);
    x.item(0, 1, 39, 6);
    x.item(1, 1, 0, 7);
    due.is("33 sheets lie apart", poked(x, 1, 39), 6);
  }

  private static void itemRefuses() {
    StillStars x = new StillStars();
    Due.row(x, 0, 1, 4, 5);
    due.is("33 bad sheet", x.item(4, 1, 9, 0), -1);
    due.is("33 bad sheet -1", x.item(-1, 1, 9, 0), -1);
    due.is("33 bad lane", x.item(1, 3, 9, 0), -1);
    due.is("33 bad lane -1", x.item(1, -1, 9, 0), -1);
    due.is("33 null", x.item(1, 1, 9, 0), -11);
    due.is("33 cast", x.item(0, 0, 9, 0), -12);
    due.is("33 index", x.item(0, 1, 2, 0), -13);
    due.is("33 index -1", x.item(0, 1, -1, 0), -13);
    due.is("33 index far", x.item(0, 1, MOST_INT, 0), -13);
    due.is("33 index far below", x.item(0, 1, LEAST_INT, 0), -13);
    due.is("33 refused changes nothing", poked(x, 1, 1), 5);
  }

  private static void layer() {
    StillStars x = new StillStars();
    for (int lane = 0; lane < 3; lane++) {
      x.sheet(lane, lane, 40);
      for (int i = 0; i < 40; i++) {
        x.item(lane, lane, i, i * 5 - 97);
      }
      due.is("34 layer", x.layer(lane, lane, lane, 7), 32);
      for (int i = 0; i < 32; i++) {
        due.is("34 cell " + i, x.cell(lane, i, 0), (i + 7) * 5 - 97);
      }
      due.is("34 from 8", x.layer(lane, lane, lane, 8), 32);
      due.is("34 the last", x.cell(lane, 31, 0), 98);
      due.is("34 not from 9", x.layer(lane, lane, lane, 9), -13);
    }
    x.item(0, 0, 0, 99);
    x.item(0, 0, 1, -99);
    due.is("34 the edges", x.layer(0, 0, 0, 0), 32);
    due.is("34 99", x.cell(0, 0, 0), 99);
    due.is("34 -99", x.cell(0, 1, 0), -99);
  }

  private static void layerRefuses() {
    StillStars x = new StillStars();
    x.sheet(0, 1, 33);
    x.item(0, 1, 32, 100);
    x.cell(1, 5, 44);
    x.cell(1, 0, 45);
    due.is("34 bad layer", x.layer(3, 3, 0, 99), -1);
    due.is("34 bad layer -1", x.layer(-1, 3, 0, 99), -1);
    due.is("34 bad sheet", x.layer(0, 4, 0, 99), -1);
    due.is("34 bad sheet -1", x.layer(0, -1, 0, 99), -1);
    due.is("34 bad lane", x.layer(0, 3, 3, 99), -1);
    due.is("34 bad lane -1", x.layer(0, 3, -1, 99), -1);
    due.is("34 null", x.layer(0, 3, 0, 99), -11);
    due.is("34 cast", x.layer(0, 0, 2, 99), -12);
    due.is("34 index", x.layer(1, 0, 1, 2), -13);
    due.is("34 index -1", x.layer(1, 0, 1, -1), -13);
    due.is("34 index far", x.layer(1, 0, 1, MOST_INT), -13);
    due.is("34 not 100", x.layer(1, 0, 1, 1), -2);
    x.item(0, 1, 0, -100);
    due.is("34 not -100", x.layer(1, 0, 1, 0), -2);
    due.is("34 refused changes nothing", x.cell(1, 5, 0), 44);
    due.is("34 nor the first", x.cell(1, 0, 0), 45);
    Due.row(x, 1, 0, new int[32]);
    x.item(1, 0, 3, 200);
    due.is("34 a byte has a sign", x.layer(1, 1, 0, 0), 32);
    due.is("34 -56", x.cell(1, 3, 0), -56);
  }
}
