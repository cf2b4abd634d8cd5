import java.lang.management.ManagementFactory;
import java.util.Random;

/** No call throws, whatever its numbers; no call makes an object; an object by itself is small. */
public final class RoomTest {
  private static final Due due = new Due("RoomTest");
  private static final int[] EDGES = {Integer.MIN_VALUE, Integer.MIN_VALUE + 1, -10000, -1000, -100, -51, -41, -32, -10,
    -2, -1, 0, 1, 2, 3, 4, 5, 6, 7, 8, 9, 15, 16, 29, 30, 31, 32, 39, 40, 41, 50, 51, 60, 99, 100, 101, 120, 200, 255,
    256, 999, 1000, 3000, 4080, 9999, 10000, 65536, Integer.MAX_VALUE - 1, Integer.MAX_VALUE};

  public static void main(String[] args) {
    wild();
    noObjects();
    small();
    due.end();
  }

  private static int any(Random random) {
    int kind = random.nextInt(10);
    return kind == 0 ? random.nextInt() : kind < 3 ? EDGES[random.nextInt(EDGES.length)] : random.nextInt(9) - 1;
  }

  private static long call(StillStars x, Random r) {
    switch (r.nextInt(33)) {
      case 0: return r.nextInt(30) == 0 ? x.mirror(any(r), any(r)) : 0;
      case 1: return x.light(any(r), any(r), r.nextInt(300));
      case 2: return x.board(any(r), any(r), any(r), any(r));
      case 3: return x.set(any(r), any(r));
      case 4: return x.rest(any(r), r.nextInt(3001));
      case 5: return x.spot(any(r), any(r));
      case 6: return x.table(any(r), any(r), r.nextInt(19) - 9);
      case 7: return x.poke(any(r), any(r), any(r), any(r), any(r));
      case 8: return x.told(any(r), any(r), any(r));
      case 9: return x.dead(any(r), r.nextBoolean());
      case 10: return x.seen();
      case 11: return x.bend(any(r), any(r));
      case 12: return x.whole(any(r));
      case 13: return x.nearest(any(r));
      case 14: return x.off();
      case 15: return x.start();
      case 16: return r.nextInt(9) == 0 ? x.stop() : 0;
      case 17: return x.frames(any(r));
      case 18: return x.state(any(r));
      case 19: return x.units(any(r), any(r));
      case 20: return x.shed();
      case 21: return x.log(any(r), any(r));
      case 22: return x.loop(any(r), any(r), any(r), any(r), any(r));
      case 23: return x.steady(any(r));
      case 24: return x.unsteady(any(r), any(r));
      case 25: return x.cell(any(r), any(r), any(r));
      case 26: return x.wind(any(r), any(r));
      case 27: return x.foretell(any(r), any(r));
      case 28: return x.guess(any(r), any(r), any(r));
      case 29: return x.sheet(any(r), any(r), any(r));
      case 30: return r.nextInt(5) == 0 ? x.drop(any(r)) : 0;
      case 31: return x.item(any(r), any(r), any(r), any(r));
      default: return x.layer(any(r), any(r), any(r), any(r));
    }
  }

  private static void wild() {
    for (int seed = 0; seed < 1500; seed++) {
      Random random = new Random(seed);
      StillStars x = new StillStars();
      for (int i = 0; i < 700; i++) {
        call(x, random);
      }
      due.holds("still there " + seed, x.stop() >= 0);
    }
  }

  private static long allocated() {
    com.sun.management.ThreadMXBean bean = (com.sun.management.ThreadMXBean) ManagementFactory.getThreadMXBean();
    return bean.getThreadAllocatedBytes(Thread.currentThread().getId());
  }

  private static void noObjects() {
    Random random = new Random(1);
    StillStars x = new StillStars();
    allocated();
    call(x, random);
    long before = allocated();
    for (int i = 0; i < 100000; i++) {
      call(x, random);
    }
    due.holds("100000 calls make no objects", allocated() - before < 100000);
  }

  private static void small() {
    new StillStars();
    StillStars[] many = new StillStars[1000];
    long before = allocated();
    for (int i = 0; i < many.length; i++) {
      many[i] = new StillStars();
    }
    long each = (allocated() - before) / many.length;
    due.holds("an object takes " + each + " bytes", each < 16000);
    due.holds("they are there", many[999].stop() == 0);
  }
}
