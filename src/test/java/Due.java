/** Counts the answers that are not as due, and tells them. */
final class Due {
  private final String name;
  private int asked = 0;
  private int wrong = 0;

  Due(String name) {
    this.name = name;
  }

  void is(String call, long got, long want) {
    asked++;
    if (got != want) {
      wrong++;
      if (wrong <= 40) {
        System.out.println(name + ": " + call + " answered " + got + ", due is " + want);
      }
    }
  }

  void holds(String what, boolean is) {
    is(what, is ? 1 : 0, 1);
  }

  int asked() {
    return asked;
  }

  boolean anyWrong() {
    return wrong != 0;
  }

  void end() {
    System.out.println(name + ": " + asked + " answers, " + wrong + " not as due");
    if (wrong != 0 || asked == 0) {
      System.exit(1);
    }
  }

  /** A SHEET with a new row of these items. */
  static void row(StillStars x, int sheet, int lane, int... items) {
    x.sheet(sheet, lane, items.length);
    for (int i = 0; i < items.length; i++) {
      x.item(sheet, lane, i, items[i]);
    }
  }

  /** A BOARD that is dark, with the SPOT's light on one place: at 0, 1000, 2000 or 3000. */
  static void shine(StillStars x, int spot, int where) {
    for (int i = 0; i < 16; i++) {
      x.light(spot, i, 0);
    }
    x.light(spot, spot % 2 == 0 ? where : 4 * where, 255);
  }

  /** All SPOTS below s LOST, or all of them at the place 1500. */
  static void allLost(StillStars x, int s, boolean lost) {
    for (int spot = 0; spot < s; spot++) {
      for (int i = 0; i < 16; i++) {
        x.light(spot, i, lost ? 0 : 100);
      }
    }
  }
}
