/** Promises 8 to 10: table, poke, told. */
public final class TableTest {
  private static final Due due = new Due("TableTest");
  private static final int OFF = -10001;

  public static void main(String[] args) {
    table();
    poke();
    pokesAdd();
    pokeRefuses();
    pokeLanes();
    pokeMost();
    told();
    due.end();
  }

  private static void table() {
    StillStars x = new StillStars();
    due.is("8 table", x.table(3, 1, -9), 0);
    due.is("8 what it was", x.table(3, 1, 9), -9);
    due.is("8 another", x.table(3, 0, 2), 0);
    due.is("8 told", x.told(3, 1, 0), 9);
    int[][] bad = {{-1, 0, 0}, {4, 0, 0}, {0, -1, 0}, {0, 2, 0}, {3, 1, 10}, {3, 1, -10},
      {Integer.MAX_VALUE, 0, 0}, {0, Integer.MIN_VALUE, 0}, {0, 0, Integer.MIN_VALUE}};
    for (int[] b : bad) {
      due.is("8 bad " + b[0] + " " + b[1] + " " + b[2], x.table(b[0], b[1], b[2]), OFF);
    }
    due.is("8 refused changes nothing", x.told(3, 1, 0), 9);
    Due.row(x, 0, 2, 4, 4, 4, 4);
    x.poke(0, 1, 0, 2, 0);
    x.poke(1, 1, 0, 2, 0);
    x.table(2, 1, 10);
    due.is("8 refused forgets nothing", x.told(0, 1, 1), 0);
    due.is("8 over a poke", x.table(2, 1, 1), 4);
    due.is("8 pokes of the part are forgotten", x.told(0, 1, 1), -10004);
    due.is("8 not of another", x.told(0, 0, 1), 0);
    due.is("8 other numbers stay", x.told(0, 1, 0), 4);
    Due.row(x, 0, 2, 6, 6, 6, 6);
    due.is("8 the next poke is the first", x.poke(1, 1, 0, 2, 0), 1);
    due.is("8 and counts alone", x.told(2, 1, 0), 6);
    due.is("8 its doubt too", x.told(2, 1, 1), 0);
  }

  private static void poke() {
    StillStars x = new StillStars();
    x.table(0, 0, 5);
    Due.row(x, 0, 2, 0, 7, -7, 999, -999);
    due.is("9 poke", x.poke(0, 2, 0, 2, 1), 1);
    int[] number = {3, -3, 9, -9};
    for (int s = 0; s < 4; s++) {
      due.is("9 number " + s, x.told(s, 0, 0), number[s]);
      due.is("9 doubt " + s, x.told(s, 0, 1), 0);
      due.is("9 another part " + s, x.told(s, 1, 0), 0);
    }
    due.is("9 by 99", x.poke(1, 99, 0, 2, 1), 1);
    due.is("9 999 by 99 is held", x.told(2, 1, 0), 9);
    due.is("9 -999 by 99 is held", x.told(3, 1, 0), -9);
  }

  private static void pokesAdd() {
    StillStars x = new StillStars();
    x.mirror(2, 1);
    Due.row(x, 0, 1, 10, -10, 25, -25, 3, 40);
    due.is("9 first", x.poke(0, 3, 0, 1, 0), 1);
    due.is("9 second", x.poke(0, 4, 0, 1, 2), 2);
    // 35 by 7, -35 by 7; 10 by 3 = 3, 25 by 4 = 6
    due.is("9 sum", x.told(0, 0, 0), 5);
    due.is("9 sum below 0", x.told(1, 0, 0), -5);
    due.is("10 doubt", x.told(0, 0, 1), 3);
    due.is("10 doubt below 0", x.told(1, 0, 1), 3);
    due.is("9 third", x.poke(0, 10, 0, 1, 4), 3);
    // 38 by 17, 5 by 17; 3 by 10 = 0, 40 by 10 = 4
    due.is("9 sum of three", x.told(0, 0, 0), 2);
    due.is("9 sum of three, cut", x.told(1, 0, 0), 0);
    due.is("10 doubt of three", x.told(0, 0, 1), 6);
    due.is("10 doubt over 0", x.told(1, 0, 1), 10);
  }

  private static void pokeRefuses() {
    StillStars x = new StillStars();
    Due.row(x, 0, 1, 1, 2, 3, 4, 1000, -1000, 7, 8, 9);
    Due.row(x, 1, 1, 999, -999, 0, 1);
    due.is("9 bad part", x.poke(2, 1, 3, 0, 99), -1);
    due.is("9 bad part -1", x.poke(-1, 1, 3, 0, 99), -1);
    due.is("9 bad by 0", x.poke(0, 0, 3, 0, 99), -1);
    due.is("9 bad by 100", x.poke(0, 100, 3, 0, 99), -1);
    due.is("9 bad by far", x.poke(0, Integer.MIN_VALUE, 0, 1, 0), -1);
    due.is("9 bad sheet", x.poke(0, 1, 4, 0, 99), -1);
    due.is("9 bad sheet -1", x.poke(0, 1, -1, 0, 99), -1);
    due.is("9 bad lane", x.poke(0, 1, 3, 3, 99), -1);
    due.is("9 bad lane -1", x.poke(0, 1, 3, -1, 99), -1);
    due.is("9 null", x.poke(0, 1, 3, 0, 99), -11);
    due.is("9 cast", x.poke(0, 1, 0, 2, 99), -12);
    due.is("9 index", x.poke(0, 1, 0, 1, 6), -13);
    due.is("9 index below 0", x.poke(0, 1, 0, 1, -1), -13);
    due.is("9 index far", x.poke(0, 1, 0, 1, Integer.MAX_VALUE), -13);
    due.is("9 not: 1000", x.poke(0, 1, 0, 1, 1), -2);
    due.is("9 not: -1000", x.poke(0, 1, 0, 1, 5), -2);
    due.is("9 refused changes nothing", x.told(0, 0, 1), -10004);
    due.is("9 nor the number", x.told(0, 0, 0), 0);
    for (int i = 1; i <= 9; i++) {
      due.is("9 poke " + i, x.poke(0, 1, 1, 1, 0), i);
    }
    due.is("9 full, behind null", x.poke(0, 1, 3, 1, 0), -11);
    due.is("9 full, behind cast", x.poke(0, 1, 0, 0, 0), -12);
    due.is("9 full, behind index", x.poke(0, 1, 0, 1, 9), -13);
    due.is("9 full, behind not", x.poke(0, 1, 0, 1, 1), -2);
    due.is("9 full", x.poke(0, 1, 0, 1, 0), -3);
    due.is("9 full changes nothing", x.told(3, 0, 1), 0);
    due.is("9 another part is not", x.poke(1, 1, 0, 1, 0), 1);
    x.table(0, 0, 1);
    due.is("9 forgotten, so not full", x.poke(0, 1, 1, 1, 0), 1);
  }

  private static void pokeLanes() {
    StillStars x = new StillStars();
    x.mirror(1, 1);
    Due.row(x, 0, 0, 200, 127);
    due.is("9 bytes have a sign", x.poke(0, 10, 0, 0, 0), 1);
    due.is("9 200 is -56", x.told(0, 0, 0), -5);
    Due.row(x, 0, 2, Integer.MAX_VALUE, Integer.MIN_VALUE);
    due.is("9 not: a great int", x.poke(0, 10, 0, 2, 0), -2);
    due.is("9 not: a small int", x.poke(0, 10, 0, 2, 1), -2);
    x.sheet(0, 2, 0);
    due.is("9 an empty row", x.poke(0, 10, 0, 2, 0), -13);
  }

  private static void pokeMost() {
    StillStars x = new StillStars();
    x.mirror(8, 5);
    Due.row(x, 0, 2, 1, 2, 3, 4, 5, 6, 7, 8);
    due.is("9 eight spots", x.poke(4, 1, 0, 2, 0), 1);
    due.is("9 not from 1", x.poke(4, 1, 0, 2, 1), -13);
    for (int s = 0; s < 8; s++) {
      due.is("9 of eight " + s, x.told(s, 4, 0), s + 1);
    }
  }

  private static void told() {
    StillStars x = new StillStars();
    int[][] bad = {{-1, 0, 0}, {4, 0, 0}, {0, -1, 0}, {0, 2, 0}, {0, 0, -1}, {0, 0, 2},
      {Integer.MIN_VALUE, 0, 1}, {0, Integer.MAX_VALUE, 1}};
    for (int[] b : bad) {
      due.is("10 bad " + b[0] + " " + b[1] + " " + b[2], x.told(b[0], b[1], b[2]), OFF);
    }
    x.table(1, 1, -9);
    due.is("10 number", x.told(1, 1, 0), -9);
    due.is("10 no pokes", x.told(1, 1, 1), -10004);
    due.is("10 telling changes nothing", x.told(1, 1, 0), -9);
    Due.row(x, 0, 2, 999, 999, 999, 999, -999, -999, -999, -999);
    x.poke(1, 1, 0, 2, 0);
    x.poke(1, 1, 0, 2, 4);
    due.is("10 the greatest doubt", x.told(1, 1, 1), 1998);
    due.is("10 with the number", x.told(1, 1, 0), 0);
  }
}
