import java.util.function.IntToLongFunction;

/**
 * What the tests of edges share: the words of the document that a test is about, numbers just outside
 * of a span, and SPOTS, LIGHT and POKES made ready in few calls.
 */
abstract class Edges {
  static final int MIN = Integer.MIN_VALUE, MAX = Integer.MAX_VALUE;
  static final int BAD = -1, NOT = -2, FULL = -3, NONE = -4, NULL = -11, CAST = -12, INDEX = -13, SIZE = -14;
  static final int BAD_FAR = -10001, NOT_FAR = -10002, NONE_FAR = -10004;
  static final long BAD_FARTHEST = -4611686018427387905L;
  static final int BYTES = 0, SHORTS = 1, INTS = 2;

  static final Due due = new Due("EdgesTest");
  static final Document document = new Document();
  private static String words = "";
  private static int askedBefore = -1;

  /** The tests from here on are about these words of the document, under this promise (0: under 'Terms'). */
  static void about(int promise, String quote) {
    endOfWords();
    words = Document.title(promise) + ": '" + quote + "': ";
    due.holds(words + "stands in the document", document.quote(promise, quote));
    askedBefore = due.asked();
  }

  /** Words that are quoted need a test. */
  static void endOfWords() {
    due.holds(words + "has a test", due.asked() > askedBefore);
  }

  static void is(String call, long got, long want) {
    due.is(words + call, got, want);
  }

  /** A call with one number that must be low .. high, and is not. */
  static void outside(String call, int low, int high, long want, IntToLongFunction answer) {
    int[] numbers = {low - 1, high + 1, low - 256, high + 256, low - 65536, high + 65536, low + MIN, high + MIN, MIN, MAX};
    for (int v : numbers) {
      if (v < low || v > high) {
        is(call + " with " + v, answer.applyAsLong(v), want);
      }
    }
  }

  static StillStars mirror(int s, int a) {
    StillStars x = new StillStars();
    is("mirror " + s + " " + a, x.mirror(s, a), 1);
    return x;
  }

  /** A BOARD that is dark but for its ends gets a SLOPE (-3000 .. 3000), by one light and REST. */
  static void slope(StillStars x, int spot, int slope) {
    int end = spot % 2 == 0 ? 3 : 12;
    x.light(spot, 0, slope > 0 ? 0 : 255);
    x.light(spot, end, slope > 0 ? 255 : 0);
    x.rest(spot, slope > 0 ? 3000 - slope : -slope);
  }

  static void slopes(StillStars x, int... slopes) {
    for (int s = 0; s < slopes.length; s++) {
      slope(x, s, slopes[s]);
    }
  }

  /** THE TABLE, a COLUMN for each PART. */
  static void columns(StillStars x, int[]... columns) {
    for (int p = 0; p < columns.length; p++) {
      for (int s = 0; s < columns[p].length; s++) {
        x.table(s, p, columns[p][s]);
      }
    }
  }

  /** Lights of a BOARD so that these together are as told (DARK being 0). */
  static void lights(StillStars x, int spot, int together) {
    int left = together;
    for (int i = 0; i < 16; i++) {
      int v = Math.min(255, left);
      x.light(spot, i, v);
      left -= v;
    }
  }

  /** A SHEET whose row has n items like this one. */
  static void alike(StillStars x, int sheet, int lane, int n, int item) {
    x.sheet(sheet, lane, n);
    for (int i = 0; i < n; i++) {
      x.item(sheet, lane, i, item);
    }
  }

  /** One SPOT, one PART, POKES as pairs of b and a change. */
  static StillStars poked(int... pairs) {
    StillStars x = mirror(1, 1);
    x.sheet(0, INTS, 1);
    for (int i = 0; i + 1 < pairs.length; i += 2) {
      x.item(0, INTS, 0, pairs[i + 1]);
      is("poke by " + pairs[i] + " " + pairs[i + 1], x.poke(0, pairs[i], 0, INTS, 0), i / 2 + 1);
    }
    return x;
  }

  static void isBend(String call, StillStars x, int part, long above, long below) {
    is(call + " bend " + part + " above", x.bend(part, 0), above);
    is(call + " bend " + part + " below", x.bend(part, 1), below);
  }
}
