import java.util.ArrayList;
import java.util.List;
import java.util.function.IntToLongFunction;
import java.util.function.ToLongFunction;

/** The terms ahead of the parts: which refusal comes first, what is refused changes nothing, divisions; the last call. */
final class EdgesOfRefusals extends Edges {
  static void run() {
    names();
    orderOfSheetTakers();
    orderOfOthers();
    nothingChanges();
    divisions();
    lastCall();
  }

  // ---- which refusal

  private static void names() {
    about(0, "BAD -1 (a number is not as told, or names nothing), NOT -2 (as told), FULL -3, NONE -4 (as told), CAST -12"
        + " (of SHEETS another LANE); what the machine finds: NULL -11, INDEX -13, SIZE -14");
    int[] told = {StillStars.BAD, StillStars.NOT, StillStars.FULL, StillStars.NONE, StillStars.NULL, StillStars.CAST,
      StillStars.INDEX, StillStars.SIZE};
    int[] due = {-1, -2, -3, -4, -11, -12, -13, -14};
    for (int i = 0; i < due.length; i++) {
      is("constant " + i, told[i], due[i]);
    }
    is("BAD", new StillStars().light(0, 0, 256), StillStars.BAD);
    is("NOT", startedTwice(), StillStars.NOT);
    is("NONE", new StillStars().spot(0, 2), StillStars.NONE);
    is("NULL", new StillStars().drop(0), StillStars.NULL);
    is("SIZE", new StillStars().sheet(0, 0, -1), StillStars.SIZE);
  }

  private static int startedTwice() {
    StillStars x = new StillStars();
    x.start();
    return x.start();
  }

  /** A call that takes a SHEET, with one of its numbers wrong (kind 1 ..) or none (kind 0). */
  private interface Taker {
    long take(StillStars x, int kind, int sheet, int lane, int from);
  }

  /** Wrong numbers of sheet and lane are kinds 1 to 4; others have kinds from 5 on. */
  private static int sheetOf(int kind, int sheet) {
    return kind == 1 ? -1 : kind == 2 ? 4 : sheet;
  }

  private static int laneOf(int kind, int lane) {
    return kind == 3 ? -1 : kind == 4 ? 3 : lane;
  }

  private static void orderOfSheetTakers() {
    about(0, "Refusals are answers, of several the first that a call names:");
    order("board", 6, 16, true, (x, k, s, l, f) -> x.board(k == 5 ? -1 : k == 6 ? 4 : 0, sheetOf(k, s), laneOf(k, l), f));
    order("poke", 8, 4, true, (x, k, s, l, f) ->
        x.poke(k == 5 ? -1 : k == 6 ? 2 : 0, k == 7 ? 0 : k == 8 ? 100 : 1, sheetOf(k, s), laneOf(k, l), f));
    order("loop", 8, 5, true, (x, k, s, l, f) ->
        x.loop(k == 5 ? -1 : k == 6 ? 2 : 0, sheetOf(k, s), laneOf(k, l), f, k == 7 ? 0 : k == 8 ? 6 : 5));
    order("item", 4, 1, false, (x, k, s, l, f) -> x.item(sheetOf(k, s), laneOf(k, l), f, 7));
    order("layer", 6, 32, true, (x, k, s, l, f) -> x.layer(k == 5 ? -1 : k == 6 ? 3 : 0, sheetOf(k, s), laneOf(k, l), f));
  }

  /** Every way in which faults come together: of them the first counts. */
  private static void order(String call, int kinds, int needs, boolean looks, Taker taker) {
    long granted = call.equals("loop") ? 5 : call.equals("layer") ? 32 : 1;
    for (int faults = 0; faults < 32; faults++) {
      boolean missing = (faults & 1) != 0;
      boolean other = (faults & 2) != 0;
      boolean far = (faults & 4) != 0;
      boolean wrong = (faults & 8) != 0;
      boolean full = (faults & 16) != 0 && call.equals("poke");
      for (int kind = 0; kind <= kinds; kind++) {
        StillStars x = new StillStars();
        if (full) {
          fillPokes(x);
        }
        if (!missing) {
          alike(x, 1, other ? INTS : SHORTS, needs, wrong ? 20000 : 3);
        }
        long due = kind > 0 ? BAD : missing ? NULL : other ? CAST : far ? INDEX : wrong && looks ? NOT : full ? FULL : granted;
        is(call + " faults " + faults + " kind " + kind, taker.take(x, kind, 1, SHORTS, far ? 1 : 0), due);
        is(call + " the other side, faults " + faults, taker.take(x, kind, 1, SHORTS, far ? -1 : 0),
            due == 1 && call.equals("poke") ? 2 : due);
      }
    }
  }

  private static void fillPokes(StillStars x) {
    x.sheet(1, INTS, 4);
    for (int i = 0; i < 9; i++) {
      x.poke(0, 1, 1, INTS, 0);
    }
    x.drop(1);
  }

  private static void orderOfOthers() {
    about(0, "(NULL, CAST, INDEX, SIZE in this order, behind BAD).");
    StillStars x = new StillStars();
    is("sheet: BAD ahead of SIZE", x.sheet(9, 0, -1), BAD);
    is("sheet: BAD lane ahead of SIZE", x.sheet(0, 9, -1), BAD);
    is("sheet: SIZE", x.sheet(0, 0, -1), SIZE);
    is("drop: BAD ahead of NULL", x.drop(4), BAD);
    is("drop: NULL", x.drop(0), NULL);
    is("spot: BAD ahead of LOST", x.spot(4, 2), BAD_FAR);
    is("told: BAD ahead of NONE", x.told(4, 0, 1), BAD_FAR);
    is("told: NONE", x.told(3, 0, 1), NONE_FAR);
    x.sheet(0, BYTES, 0);
    x.sheet(1, SHORTS, 32);
    is("guess: BAD ahead of NULL", x.guess(3, 4, 0), BAD);
    is("guess: NULL ahead of CAST", x.guess(1, 3, 0), NULL);
    is("guess: CAST ahead of INDEX", x.guess(0, 1, 0), CAST);
    is("guess: INDEX", x.guess(0, 0, 0), INDEX);
  }

  // ---- what is refused changes nothing

  private static final class Refused {
    final String name;
    final long due;
    final ToLongFunction<StillStars> call;

    Refused(String name, long due, ToLongFunction<StillStars> call) {
      this.name = name;
      this.due = due;
      this.call = call;
    }
  }

  /** All that can be told is told: 3 SPOTS, 3 PARTS; SHEET 3 holds nothing; in one STATE of four, near a change. */
  private static StillStars ready(int state) {
    StillStars x = new StillStars();
    x.mirror(3, 3);
    int[] settings = {10, 60, 0, 70, 50, 20, 3};
    for (int what = 0; what < 7; what++) {
      x.set(what, settings[what]);
    }
    for (int i = 0; i < 16; i++) {
      x.light(0, i, 10 + 5 * i);
      x.light(1, i, 255 - 9 * i);
      x.light(2, i, i == 7 ? 255 : 0);
    }
    rows(x);
    x.rest(1, 2000);
    x.rest(2, 0);
    x.poke(0, 3, 0, BYTES, 0);
    x.poke(0, 4, 0, BYTES, 5);
    x.poke(1, 5, 0, BYTES, 9);
    for (int i = 0; i < 9; i++) {
      x.poke(2, 1 + i, 0, BYTES, i);
    }
    x.dead(1, true);
    x.loop(0, 1, SHORTS, 0, 4);
    x.loop(1, 1, SHORTS, 1, 3);
    x.wind(0, 5);
    x.wind(2, -6);
    x.cell(0, 0, 11);
    x.cell(1, 31, -12);
    x.cell(2, 16, 13);
    for (int p = 0; p < 3; p++) {
      x.units(p, 7 + p);
    }
    x.shed();
    into(x, state);
    return x;
  }

  private static void rows(StillStars x) {
    x.sheet(0, BYTES, 40);
    for (int i = 0; i < 40; i++) {
      x.item(0, BYTES, i, i % 19 - 9);
    }
    Due.row(x, 1, SHORTS, 1, -2, 3, 9, 1000, -1000, 51, 256, 100, -1);
    Due.row(x, 2, INTS, 4, 5, MAX);
  }

  /** OPEN, or SEEK behind two FRAMES of three, or HELD, or LOST behind 19 FRAMES of 20, four of them good. */
  private static void into(StillStars x, int state) {
    x.frames(2);
    if (state > 0) {
      x.start();
      x.frames(2);
    }
    if (state > 1) {
      x.frames(2);
    }
    if (state > 2) {
      x.set(1, 4080);
      x.frames(16);
      x.set(1, 60);
      x.frames(4);
    }
  }

  private static final int LOOKS = 9;

  /** A look at one part of all that can be seen; it may change the object. */
  private static List<Long> look(StillStars x, int part) {
    List<Long> seen = new ArrayList<>();
    switch (part) {
      case 0: lookAtSpots(x, seen); break;
      case 1: lookAtBends(x, seen); break;
      case 2: lookAtFrames(x, seen); break;
      case 3: lookAtLoop(x, seen); break;
      case 4: lookAtLayers(x, seen); break;
      default: lookAtSheet(x, part - 5, seen); break;
    }
    return seen;
  }

  private static void lookAtSpots(StillStars x, List<Long> seen) {
    for (int s = 0; s < 4; s++) {
      for (int what = 0; what < 4; what++) {
        seen.add((long) x.spot(s, what));
      }
      seen.add((long) x.rest(s, 1));
      for (int i = 0; i < 16; i++) {
        seen.add((long) x.light(s, i, 1));
      }
    }
    for (int what = 0; what < 7; what++) {
      seen.add((long) x.set(what, 1));
    }
  }

  private static void lookAtBends(StillStars x, List<Long> seen) {
    seen.add((long) x.seen());
    seen.add(x.off());
    for (int p = 0; p < 4; p++) {
      seen.add(x.bend(p, 0));
      seen.add(x.bend(p, 1));
      seen.add((long) x.whole(p));
      seen.add((long) x.nearest(p));
      for (int s = 0; s < 3; s++) {
        seen.add((long) x.told(s, p, 0));
        seen.add((long) x.told(s, p, 1));
      }
      seen.add((long) x.poke(p, 7, 0, BYTES, 0));
      seen.add((long) x.told(2, p, 0));
      seen.add((long) x.dead(p, false));
    }
  }

  private static void lookAtFrames(StillStars x, List<Long> seen) {
    for (int turn = 0; turn < 3; turn++) {
      for (int i = 0; i < 6; i++) {
        seen.add((long) x.state(i));
      }
      for (int i = 0; i < 31; i++) {
        for (int what = 0; what < 3; what++) {
          seen.add((long) x.log(i, what));
        }
      }
      seen.add((long) x.frames(1));
    }
    seen.add((long) x.start());
    seen.add((long) x.shed());
  }

  private static void lookAtLoop(StillStars x, List<Long> seen) {
    for (int g = 0; g <= 100; g++) {
      seen.add((long) x.steady(g));
    }
    Due.row(x, 3, INTS, -1, 0, 0, 0, 0);
    x.loop(0, 3, INTS, 0, 5);
    seen.add((long) x.unsteady(0, 100));
    for (int g = 0; g <= 100; g++) {
      seen.add((long) x.steady(g));
    }
  }

  private static void lookAtLayers(StillStars x, List<Long> seen) {
    for (int t = 0; t < 8; t++) {
      seen.add((long) x.foretell(2, t));
    }
    for (int l = 0; l < 3; l++) {
      seen.add((long) x.wind(l, 0));
      for (int i = 0; i < 32; i++) {
        seen.add((long) x.cell(l, i, 0));
      }
    }
  }

  /** Items by POKES of one SPOT: what is not -9 .. 9 is told as held, or refused. */
  private static void lookAtSheet(StillStars x, int sheet, List<Long> seen) {
    x.mirror(1, 1);
    int lane = Math.min(sheet, 2);
    for (int i = 0; i < 41; i++) {
      seen.add((long) x.poke(0, 1, sheet, lane, i));
      seen.add((long) x.told(0, 0, 0));
      x.table(0, 0, 0);
    }
    seen.add((long) x.drop(sheet));
  }

  private static void nothingChanges() {
    about(0, "What is refused changes nothing.");
    List<Refused> refused = new ArrayList<>();
    refusedOfSpots(refused);
    refusedOfSheetTakers(refused);
    refusedOfOthers(refused);
    for (int state = 0; state < 4; state++) {
      is("it is in STATE " + state, ready(state).state(4), state);
      for (int part = 0; part < LOOKS; part++) {
        List<Long> due = look(ready(state), part);
        for (Refused r : refused) {
          StillStars x = ready(state);
          is(r.name, r.call.applyAsLong(x), r.due);
          is(r.name + " changes part " + part + " in STATE " + state, look(x, part).equals(due) ? 0 : 1, 0);
        }
      }
    }
    is("refused in SEEK: start", ready(1).start(), NOT);
  }

  private static void refusedOfSpots(List<Refused> r) {
    for (int bad : new int[] {-1, 3, MIN, MAX}) {
      r.add(new Refused("light of SPOT " + bad, BAD, x -> x.light(bad, 0, 9)));
      r.add(new Refused("rest of SPOT " + bad, BAD, x -> x.rest(bad, 9)));
      r.add(new Refused("spot " + bad, BAD_FAR, x -> x.spot(bad, 0)));
      r.add(new Refused("table of SPOT " + bad, BAD_FAR, x -> x.table(bad, 0, 2)));
      r.add(new Refused("table of PART " + bad, BAD_FAR, x -> x.table(0, bad, 2)));
      r.add(new Refused("told of SPOT " + bad, BAD_FAR, x -> x.told(bad, 0, 0)));
      r.add(new Refused("dead " + bad, BAD, x -> x.dead(bad, true)));
      r.add(new Refused("bend " + bad, BAD_FARTHEST, x -> x.bend(bad, 0)));
      r.add(new Refused("whole " + bad, BAD_FAR, x -> x.whole(bad)));
      r.add(new Refused("nearest " + bad, BAD_FAR, x -> x.nearest(bad)));
      r.add(new Refused("units of PART " + bad, BAD_FAR, x -> x.units(bad, 1)));
      r.add(new Refused("foretell of SPOT " + bad, BAD_FAR, x -> x.foretell(bad, 0)));
    }
    r.add(new Refused("mirror 0 3", BAD, x -> x.mirror(0, 3)));
    r.add(new Refused("mirror 3 6", BAD, x -> x.mirror(3, 6)));
    r.add(new Refused("light 16", BAD, x -> x.light(0, 16, 9)));
    r.add(new Refused("light -1", BAD, x -> x.light(1, -1, 9)));
    r.add(new Refused("light of 256", BAD, x -> x.light(1, 1, 256)));
    r.add(new Refused("light of -1", BAD, x -> x.light(1, 1, -1)));
    r.add(new Refused("rest of 3001", BAD, x -> x.rest(1, 3001)));
    r.add(new Refused("rest of -1", BAD, x -> x.rest(1, -1)));
    r.add(new Refused("table of 10", BAD_FAR, x -> x.table(1, 1, 10)));
    r.add(new Refused("table of -10", BAD_FAR, x -> x.table(1, 1, -10)));
    r.add(new Refused("told of what 2", BAD_FAR, x -> x.told(1, 1, 2)));
    r.add(new Refused("dead 0", BAD, x -> x.dead(0, true)));
    int[] beyond = {256, 4081, 9, 201, 61, 121, 9};
    int[] below = {-1, 0, -1, -1, 0, -1, 0};
    for (int what = 0; what < 7; what++) {
      int one = what;
      r.add(new Refused("set beyond " + one, BAD_FAR, x -> x.set(one, beyond[one])));
      r.add(new Refused("set below " + one, BAD_FAR, x -> x.set(one, below[one])));
    }
    r.add(new Refused("set of what 7", BAD_FAR, x -> x.set(7, 1)));
    r.add(new Refused("set of what -1", BAD_FAR, x -> x.set(-1, 1)));
  }

  /** SHEET 1 has shorts: 1, -2, 3, 9, 1000, -1000, 51, 256, 100, -1; the 16 of SHEET 0 from 0 on are below 0 too. */
  private static void refusedOfSheetTakers(List<Refused> r) {
    takers(r, "board", (s, l) -> f -> x -> x.board(1, s, l, f), 25);
    takers(r, "poke", (s, l) -> f -> x -> x.poke(0, 2, s, l, f), 38);
    takers(r, "loop", (s, l) -> f -> x -> x.loop(0, s, l, f, 5), 36);
    takers(r, "layer", (s, l) -> f -> x -> x.layer(1, s, l, f), 9);
    takers(r, "item", (s, l) -> f -> x -> x.item(s, l, f, 8), 40);
    r.add(new Refused("board of SPOT 3", BAD, x -> x.board(3, 0, BYTES, 0)));
    r.add(new Refused("poke of PART 3", BAD, x -> x.poke(3, 1, 0, BYTES, 0)));
    r.add(new Refused("poke by 0", BAD, x -> x.poke(0, 0, 0, BYTES, 0)));
    r.add(new Refused("poke by 100", BAD, x -> x.poke(0, 100, 0, BYTES, 0)));
    r.add(new Refused("poke NOT, the last item", NOT, x -> x.poke(0, 1, 1, SHORTS, 2)));
    r.add(new Refused("poke NOT, the first item", NOT, x -> x.poke(1, 1, 1, SHORTS, 5)));
    r.add(new Refused("poke FULL", FULL, x -> x.poke(2, 1, 0, BYTES, 20)));
    r.add(new Refused("loop of D NOT, the last item", NOT, x -> x.loop(0, 1, SHORTS, 0, 5)));
    r.add(new Refused("loop of N NOT, the first item", NOT, x -> x.loop(1, 1, SHORTS, 6, 1)));
    r.add(new Refused("loop of which 2", BAD, x -> x.loop(2, 0, BYTES, 0, 3)));
    r.add(new Refused("loop of 0 numbers", BAD, x -> x.loop(0, 0, BYTES, 0, 0)));
    r.add(new Refused("loop of 6 numbers", BAD, x -> x.loop(0, 0, BYTES, 0, 6)));
    r.add(new Refused("layer 3", BAD, x -> x.layer(3, 0, BYTES, 0)));
    r.add(new Refused("layer NOT, the last item", NOT, x -> withWrong(x, 31, 100, y -> y.layer(0, 3, SHORTS, 0))));
    r.add(new Refused("layer NOT, the first item", NOT, x -> withWrong(x, 0, -100, y -> y.layer(0, 3, SHORTS, 0))));
    r.add(new Refused("board NOT, the last item", NOT, x -> withWrong(x, 15, 256, y -> y.board(0, 3, SHORTS, 0))));
    r.add(new Refused("board NOT, the first item", NOT, x -> withWrong(x, 0, -1, y -> y.board(0, 3, SHORTS, 0))));
  }

  /** SHEET 3 holds 32 shorts, one of them wrong, for just this call. */
  private static long withWrong(StillStars x, int i, int v, ToLongFunction<StillStars> call) {
    x.sheet(3, SHORTS, 32);
    x.item(3, SHORTS, i, v);
    long answer = call.applyAsLong(x);
    x.drop(3);
    return answer;
  }

  private interface OfSheet {
    OfFrom of(int sheet, int lane);
  }

  private interface OfFrom {
    ToLongFunction<StillStars> from(int from);
  }

  private static void takers(List<Refused> r, String call, OfSheet of, int beyond) {
    r.add(new Refused(call + " of SHEET 4", BAD, of.of(4, BYTES).from(0)));
    r.add(new Refused(call + " of SHEET -1", BAD, of.of(-1, BYTES).from(0)));
    r.add(new Refused(call + " of LANE 3", BAD, of.of(0, 3).from(0)));
    r.add(new Refused(call + " of LANE -1", BAD, of.of(0, -1).from(0)));
    r.add(new Refused(call + " NULL", NULL, of.of(3, BYTES).from(0)));
    r.add(new Refused(call + " CAST", CAST, of.of(0, SHORTS).from(0)));
    for (int from : new int[] {beyond, -1, MAX, MIN}) {
      r.add(new Refused(call + " INDEX " + from, INDEX, of.of(0, BYTES).from(from)));
    }
  }

  private static void refusedOfOthers(List<Refused> r) {
    spans(r, "frames", 1, 100, BAD, v -> x -> x.frames(v));
    spans(r, "state", 0, 5, BAD_FAR, v -> x -> x.state(v));
    spans(r, "units", -50, 50, BAD_FAR, v -> x -> x.units(1, v));
    spans(r, "log", 0, 29, BAD_FAR, v -> x -> x.log(v, 0));
    spans(r, "steady", 0, 100, BAD, v -> x -> x.steady(v));
    spans(r, "unsteady", 0, 100, BAD, v -> x -> x.unsteady(v, 100));
    spans(r, "cell of a number", -99, 99, BAD_FAR, v -> x -> x.cell(0, 0, v));
    spans(r, "cell i", 0, 31, BAD_FAR, v -> x -> x.cell(0, v, 1));
    spans(r, "cell of a LAYER", 0, 2, BAD_FAR, v -> x -> x.cell(v, 0, 1));
    spans(r, "wind", -31, 31, BAD_FAR, v -> x -> x.wind(0, v));
    spans(r, "foretell", 0, 9999, BAD_FAR, v -> x -> x.foretell(0, v));
    spans(r, "sheet", 0, 3, BAD, v -> x -> x.sheet(v, 0, 5));
    spans(r, "sheet of a LANE", 0, 2, BAD, v -> x -> x.sheet(0, v, 5));
    spans(r, "drop", 0, 3, BAD, v -> x -> x.drop(v));
    r.add(new Refused("sheet of 41", BAD, x -> x.sheet(0, SHORTS, 41)));
    r.add(new Refused("sheet of -1", SIZE, x -> x.sheet(0, SHORTS, -1)));
    r.add(new Refused("sheet of MIN", SIZE, x -> x.sheet(3, SHORTS, MIN)));
    r.add(new Refused("drop of nothing", NULL, x -> x.drop(3)));
    r.add(new Refused("guess INDEX", INDEX, x -> x.guess(1, 1, SHORTS)));
    r.add(new Refused("guess NULL", NULL, x -> x.guess(0, 3, BYTES)));
    r.add(new Refused("unsteady 5 4", BAD, x -> x.unsteady(5, 4)));
  }

  private interface OfNumber {
    ToLongFunction<StillStars> of(int v);
  }

  private static void spans(List<Refused> r, String call, int low, int high, long due, OfNumber of) {
    r.add(new Refused(call + " " + (low - 1), due, of.of(low - 1)));
    r.add(new Refused(call + " " + (high + 1), due, of.of(high + 1)));
    r.add(new Refused(call + " far", due, of.of(MIN)));
  }

  // ---- divisions, the last call

  private static void divisions() {
    about(0, "Divisions are cut toward 0.");
    is("THE TABLE: 7 by 2", poked(2, 7).told(0, 0, 0), 3);
    is("THE TABLE: -7 by 2", poked(2, -7).told(0, 0, 0), -3);
    is("THE TABLE: -1 by 2", poked(2, -1).told(0, 0, 0), 0);
    is("THE TABLE: -3 by 4, of two", poked(2, 1, 2, -4).told(0, 0, 0), 0);
    is("DOUBT: -7 by 2 and 7 by 2", poked(2, -7, 2, 7).told(0, 0, 1), 6);
    is("DOUBT: -7 by 2 and 0", poked(2, -7, 2, 0).told(0, 0, 1), 3);
    IntToLongFunction shed = units -> {
      StillStars x = mirror(1, 2);
      x.units(0, units);
      return x.shed();
    };
    is("SHED: 7 by 2", shed.applyAsLong(7), 3);
    is("SHED: -7 by 2", shed.applyAsLong(-7), -3);
    is("SHED: -1 by 2", shed.applyAsLong(-1), 0);
    IntToLongFunction bent = whole -> {
      StillStars x = mirror(1, 1);
      x.table(0, 0, 1);
      slope(x, 0, whole);
      x.start();
      x.frames(4);
      return x.state(0);
    };
    is("50 times 7 by 100", bent.applyAsLong(7), -3);
    is("50 times -7 by 100", bent.applyAsLong(-7), 3);
    is("50 times -1 by 100", bent.applyAsLong(-1), 0);
    StillStars x = new StillStars();
    x.light(0, 0, 120);
    x.light(0, 1, 220);
    is("MIDDLE: 200000 by 300", x.spot(0, 2), 666);
    is("SLOPE is not cut anew", x.spot(0, 3), -834);
  }

  private static void lastCall() {
    about(Document.USE, "An object is used for at most 512 calls after it has been made; what later calls answer is free.");
    StillStars x = new StillStars();
    for (int i = 0; i < 511; i++) {
      is("call " + i, x.light(0, 0, (i + 1) % 256), i % 256);
    }
    is("call 512", x.light(0, 0, 0), 511 % 256);
    StillStars y = new StillStars();
    for (int i = 0; i < 511; i++) {
      y.frames(100);
    }
    is("call 512, FRAMES", y.state(4), 51100);
    StillStars z = mirror(1, 1);
    z.set(4, 60);
    for (int i = 0; i < 254; i++) {
      z.units(0, -60);
      z.shed();
    }
    is("call 511, TIP", z.state(1), -60 * 254);
    is("call 512, UNITS", z.units(0, 1), 0);
  }
}
