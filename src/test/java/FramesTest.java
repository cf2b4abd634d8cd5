/** Promises 17 to 23: start, stop, frames, state, units, shed, log. */
public final class FramesTest {
  private static final Due due = new Due("FramesTest");
  private static final int OFF = -10001;

  public static void main(String[] args) {
    startAndStop();
    seek();
    held();
    gain();
    lostAndHeldAgain();
    lostAndOpen();
    lostAtTheLastFrame();
    few();
    state();
    units();
    shed();
    log();
    framesRefuses();
    fiveParts();
    manyFramesAsOneByOne();
    due.end();
  }

  /** One SPOT, one PART, in HELD, with this SLOPE for WHOLE. */
  private static StillStars heldWith(int slope) {
    StillStars x = new StillStars();
    x.mirror(1, 1);
    x.set(2, 0);
    x.table(0, 0, 1);
    Due.shine(x, 0, slope > 0 ? 3 : 0);
    x.rest(0, slope > 0 ? 3000 - slope : -slope);
    x.start();
    x.frames(3);
    return x;
  }

  private static void startAndStop() {
    StillStars x = new StillStars();
    due.is("18 from open", x.stop(), 0);
    due.is("17 start", x.start(), 1);
    due.is("17 again", x.start(), -2);
    due.is("17 seek", x.state(3), 1);
    due.is("18 from seek", x.stop(), 1);
    due.is("18 open", x.state(3), 0);
    due.is("17 anew", x.start(), 1);
    StillStars y = heldWith(10);
    due.is("17 held", y.start(), -2);
    y.frames(1);
    due.is("18 from held", y.stop(), 2);
    due.is("18 units stay", y.state(0), -5);
    due.is("18 open behind held", y.state(2), 0);
    due.is("18 frames stay", y.state(3), 4);
    due.is("18 log stays", y.log(3, 0), 1);
    StillStars z = heldWith(10);
    z.light(0, 3, 0);
    z.frames(1);
    due.is("17 lost", z.start(), -2);
    due.is("18 from lost", z.stop(), 3);
    due.is("18 open behind lost", z.state(2), 0);
  }

  private static void seek() {
    StillStars x = new StillStars();
    Due.allLost(x, 4, false);
    due.is("19 open stays", x.frames(100), 0);
    x.units(0, 9);
    x.start();
    due.is("19 frames of open do not count", x.frames(2), 1);
    due.is("19 units stay in seek", x.state(0), 9);
    Due.allLost(x, 4, true);
    due.is("19 one between", x.frames(1), 1);
    Due.allLost(x, 4, false);
    due.is("19 begins anew", x.frames(2), 1);
    x.stop();
    x.start();
    due.is("19 so does start", x.frames(2), 1);
    due.is("19 the third", x.frames(1), 2);
    due.is("19 units stay in it too", x.state(0), 9);
  }

  private static void held() {
    StillStars x = heldWith(10);
    due.is("19 the frame that holds bends nothing", x.state(0), 0);
    due.is("19 held", x.frames(1), 2);
    due.is("19 10 times 50 by 100", x.state(0), -5);
    x.frames(6);
    due.is("19 by 5 each", x.state(0), -35);
    x.frames(2);
    due.is("19 to the limit", x.state(0), -40);
    StillStars y = heldWith(-10);
    y.frames(2);
    due.is("19 the other way", y.state(0), 10);
    y.light(0, 0, 0);
    due.is("19 lost", y.frames(1), 3);
    due.is("19 units stay", y.state(0), 10);
  }

  private static void gain() {
    StillStars x = heldWith(3);
    x.frames(1);
    due.is("19 3 times 50 by 100 is cut", x.state(0), -1);
    StillStars y = heldWith(-3);
    y.frames(1);
    due.is("19 -3 times 50 by 100 is cut", y.state(0), 1);
    StillStars z = heldWith(3);
    z.units(0, 10);
    z.frames(1);
    due.is("19 10 less 1", z.state(0), 9);
    z.set(3, 200);
    z.frames(1);
    due.is("19 9 less 6", z.state(0), 3);
    z.set(3, 0);
    z.frames(9);
    due.is("19 no gain", z.state(0), 3);
    StillStars v = heldWith(99);
    v.set(4, 60);
    v.set(3, 100);
    v.units(0, 40);
    v.frames(1);
    due.is("19 40 less 99", v.state(0), -59);
    // UNITS that are not ALLOWED become the NEAREST row, with nothing to bend too
    StillStars w = new StillStars();
    Due.allLost(w, 4, false);
    w.start();
    w.frames(3);
    w.units(0, 40);
    w.units(1, -40);
    w.frames(1);
    due.is("19 of (40, -40) with NEAR 30", w.state(0), 15);
    due.is("19 the second", w.state(1), -15);
    w.dead(1, true);
    w.frames(1);
    due.is("19 dead like the one ahead", w.state(0), 0);
    due.is("19 the dead one", w.state(1), 0);
    w.units(0, 40);
    w.units(1, 40);
    w.set(4, 7);
    w.frames(1);
    due.is("19 another limit", w.state(0), 7);
  }

  private static void lostAndHeldAgain() {
    StillStars x = heldWith(10);
    x.light(0, 3, 0);
    due.is("19 lost", x.frames(1), 3);
    x.light(0, 3, 255);
    due.is("19 four", x.frames(4), 3);
    x.light(0, 3, 0);
    due.is("19 one between", x.frames(1), 3);
    x.light(0, 3, 255);
    due.is("19 four again", x.frames(4), 3);
    due.is("19 no bending meanwhile", x.state(0), 0);
    due.is("19 the fifth", x.frames(1), 2);
    due.is("19 none in that frame", x.state(0), 0);
    x.frames(1);
    due.is("19 but in the next", x.state(0), -5);
  }

  private static void lostAndOpen() {
    StillStars x = heldWith(10);
    x.frames(2);
    x.light(0, 3, 0);
    due.is("19 the frame that finds it held", x.frames(1), 3);
    due.is("19 nineteen that find it lost", x.frames(19), 3);
    due.is("19 units stay so long", x.state(0), -10);
    due.is("19 the 20th", x.frames(1), 0);
    due.is("19 units are 0", x.state(0), 0);
    due.is("19 the log tells it", x.log(0, 0), 0);
    due.is("19 with no units", x.log(0, 2), 0);
    due.is("19 but those ahead", x.log(1, 2), -10);
    due.is("17 start again", x.start(), 1);
    // the next time that it is LOST has its own 20 FRAMES
    x.light(0, 3, 255);
    x.frames(3);
    x.light(0, 3, 0);
    x.frames(11);
    x.light(0, 3, 255);
    due.is("19 held again", x.frames(5), 2);
    x.light(0, 3, 0);
    due.is("19 lost again", x.frames(20), 3);
    due.is("19 and open", x.frames(1), 0);
  }

  private static void lostAtTheLastFrame() {
    StillStars x = heldWith(10);
    x.light(0, 3, 0);
    x.frames(1 + 15);
    x.light(0, 3, 255);
    due.is("19 the fifth good one is the 20th", x.frames(5), 2);
    x.light(0, 3, 0);
    x.frames(1);
    x.units(0, 8);
    x.light(0, 3, 255);
    due.is("19 held once more", x.frames(5), 2);
    due.is("19 units stay through it", x.state(0), 8);
    StillStars y = heldWith(10);
    y.frames(1);
    y.light(0, 3, 0);
    y.frames(1 + 16);
    y.light(0, 3, 255);
    due.is("19 three good ones, the 19th", y.frames(3), 3);
    due.is("19 the fourth is the 20th", y.frames(1), 0);
    due.is("19 with units 0", y.state(0), 0);
  }

  private static void few() {
    StillStars x = new StillStars();
    x.start();
    Due.allLost(x, 3, false);
    due.is("19 one lost is few", x.frames(3), 2);
    due.is("19 n is logged", x.log(0, 1), 1);
    Due.allLost(x, 1, true);
    due.is("19 two are not", x.frames(1), 3);
    due.is("19 two are logged", x.log(0, 1), 2);
    x.set(2, 2);
    due.is("19 now they are", x.frames(5), 2);
    x.set(2, 8);
    Due.allLost(x, 4, true);
    due.is("19 all lost are few of 8", x.frames(9), 2);
    x.set(2, 0);
    due.is("19 none is allowed", x.frames(1), 3);
  }

  private static void state() {
    StillStars x = new StillStars();
    x.mirror(2, 3);
    x.units(0, 1);
    x.units(1, 2);
    x.units(2, 4);
    x.frames(5);
    x.start();
    int[] first = {1, 2, 4, 0, 1, 5};
    for (int i = 0; i < 6; i++) {
      due.is("20 state " + i, x.state(i), first[i]);
    }
    due.is("20 bad 6", x.state(6), OFF);
    due.is("20 bad -1", x.state(-1), OFF);
    due.is("20 bad far", x.state(Integer.MAX_VALUE), OFF);
    due.is("20 bad far below", x.state(Integer.MIN_VALUE), OFF);
    x.mirror(2, 1);
    due.is("20 A + 3 with one part", x.state(4), OFF);
    x.frames(100);
    x.frames(100);
    due.is("20 frames", x.state(3), 200);
    x.mirror(2, 1);
    due.is("20 frames since mirror", x.state(3), 0);
  }

  private static void units() {
    StillStars x = new StillStars();
    due.is("21 units", x.units(0, 40), 0);
    due.is("21 near does not matter", x.units(1, -40), 0);
    due.is("21 what they were", x.units(0, 3), 40);
    int[][] bad = {{-1, 0}, {2, 0}, {0, 41}, {0, -41}, {Integer.MIN_VALUE, 0}, {0, Integer.MIN_VALUE}};
    for (int[] b : bad) {
      due.is("21 bad " + b[0] + " " + b[1], x.units(b[0], b[1]), OFF);
    }
    due.is("21 refused changes nothing", x.state(0), 3);
    x.set(4, 10);
    due.is("21 beyond a new limit", x.units(0, 11), OFF);
    due.is("21 within it", x.units(0, -10), 3);
    due.is("21 units beyond it stay", x.state(1), -40);
    x.set(4, 60);
    due.is("21 a wider limit", x.units(1, 60), -40);
    x.dead(1, true);
    due.is("21 a dead one too", x.units(1, 1), 60);
  }

  private static void shed() {
    StillStars x = new StillStars();
    x.mirror(2, 3);
    x.units(0, 10);
    x.units(1, 5);
    x.units(2, 5);
    due.is("22 20 by 3", x.shed(), 6);
    int[] behind = {4, -1, -1, 6};
    for (int i = 0; i < 4; i++) {
      due.is("22 behind it " + i, x.state(i), behind[i]);
    }
    due.is("22 nothing more", x.shed(), 0);
    x.units(0, -10);
    x.units(1, -5);
    x.units(2, -5);
    due.is("22 -20 by 3", x.shed(), -6);
    int[] below = {-4, 1, 1, 0};
    for (int i = 0; i < 4; i++) {
      due.is("22 below 0 " + i, x.state(i), below[i]);
    }
    x.set(4, 60);
    x.units(0, 60);
    x.units(1, 60);
    x.units(2, -60);
    due.is("22 beyond the limit", x.shed(), 20);
    due.is("22 the third", x.state(2), -80);
    due.is("22 the tip", x.state(3), 20);
    x.start();
    due.is("22 the state stays", x.state(4), 1);
  }

  private static void log() {
    StillStars x = heldWith(2);
    due.is("23 three", x.log(2, 0), 1);
    due.is("23 not four", x.log(3, 0), OFF);
    x.frames(29);
    due.is("23 the latest", x.log(0, 2), -29);
    due.is("23 the one ahead", x.log(1, 2), -28);
    due.is("23 the 29th", x.log(28, 2), -1);
    due.is("23 the 30th", x.log(29, 0), 2);
    due.is("23 the 30th's units", x.log(29, 2), 0);
    due.is("23 no 31st", x.log(30, 0), OFF);
    x.frames(1);
    due.is("23 it has moved on", x.log(29, 2), -1);
    due.is("23 still no 31st", x.log(30, 2), OFF);
    due.is("23 bad -1", x.log(-1, 0), OFF);
    due.is("23 bad what 3", x.log(0, 3), OFF);
    due.is("23 bad what -1", x.log(0, -1), OFF);
    due.is("23 bad far", x.log(Integer.MAX_VALUE, Integer.MIN_VALUE), OFF);
    due.is("23 bad far below", x.log(Integer.MIN_VALUE, 0), OFF);
    x.units(0, 5);
    due.is("23 it keeps what was", x.log(0, 2), -30);
    x.shed();
    due.is("23 through shed too", x.log(0, 2), -30);
  }

  private static void fiveParts() {
    StillStars x = new StillStars();
    x.mirror(8, 5);
    for (int p = 0; p < 5; p++) {
      x.table(p, p, 1);
    }
    for (int s = 0; s < 8; s++) {
      Due.shine(x, s, 3);
      x.rest(s, 3000 - 2 * s);
    }
    x.start();
    x.frames(5);
    for (int p = 0; p < 5; p++) {
      due.is("19 of five " + p, x.state(p), -2 * p);
    }
    due.is("23 the sum of five", x.log(0, 2), -20);
    due.is("23 the sum ahead", x.log(1, 2), -10);
    due.is("22 of five", x.shed(), -4);
    for (int p = 0; p < 5; p++) {
      due.is("22 of five " + p, x.state(p), 4 - 2 * p);
    }
  }

  private static void framesRefuses() {
    StillStars x = new StillStars();
    int[] bad = {0, 101, -1, Integer.MIN_VALUE, Integer.MAX_VALUE};
    for (int n : bad) {
      due.is("19 bad " + n, x.frames(n), -1);
    }
    due.is("19 refused changes nothing", x.state(4), 0);
    due.is("19 100", x.frames(100), 0);
    due.is("19 100 done", x.state(4), 100);
  }

  /** frames(n) does what frames(1) does n times. */
  private static void manyFramesAsOneByOne() {
    for (int slope = -3000; slope <= 3000; slope += 250) {
      StillStars x = heldWith(slope);
      StillStars y = heldWith(slope);
      x.set(3, 1);
      y.set(3, 1);
      for (int turn = 0; turn < 6; turn++) {
        int n = 1 + 7 * turn;
        int state = 0;
        for (int i = 0; i < n; i++) {
          state = y.frames(1);
        }
        due.is("19 at once " + slope, x.frames(n), state);
        // every other line, so that all stays within an object's 512 calls
        for (int i = turn % 2; i < 30; i += 2) {
          for (int what = 0; what < 3; what++) {
            due.is("19 log " + slope + " " + i + " " + what, x.log(i, what), y.log(i, what));
          }
        }
        if (turn == 3) {
          Due.allLost(x, 1, true);
          Due.allLost(y, 1, true);
        }
      }
    }
  }
}
