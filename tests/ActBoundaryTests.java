// The boundary cases of Terms III (ACTS, UNDO) and IV (TROUBLE), of promises 1 and 34 to 42, and of the 512 calls.
public final class ActBoundaryTests extends Check {
  /** FUEL f: START 15 + f, RATIO (15 + f) by 15, squared; it HOLDS up to 4. */
  private static final String FIVE = head(10, 11, 10, 2, 0) + stage("a solid", 5, 0, 5, 1, 79, 5, 400, 0);
  private static final String THREE = head(1, 2, 1, 1, 0) + stage("a oil", 1, 0, 16, 1, 9, 1, 0, 0) + stage("b oil", 1, 0, 1, 1, 9, 1, 0, 0)
      + stage("c oil", 1, 0, 8, 1, 9, 1, 0, 0);

  /** The ACT answers, is kept and can be undone; then all is as it was. */
  private static void act(String call, Make make, Ask ask, long answer) {
    StageRatios x = make.it();
    int kept = x.size(1);
    due(call, ask.of(x), answer);
    due("trouble() after " + call, x.trouble(), 0);
    due("size(1) after " + call, x.size(1), kept < 10 ? kept + 1 : 10);
    due("undo() after " + call, x.undo() ? 1 : 0, 1);
    due("trouble() after undo()", x.trouble(), 0);
    if (kept < 10) {
      same("the state after undo() of " + call, state(x), state(make.it()));
    }
  }

  private static void newObject() {
    sentence("1: No ROCKET: nothing on THE TAPE, nothing to undo, no FAULT, no TROUBLE");
    StageRatios x = new StageRatios();
    due("trouble()", x.trouble(), 0);
    due("where()", x.where(), -1);
    due("fault()", x.fault(), 0);
    due("size(0)", x.size(0), 0);
    due("size(1)", x.size(1), 0);
    due("weak(0)", weakOf(x, 0), THROWN);
    due("feed()", x.feed(0, 0, 0, 0, 0), 20);
    sentence("1: objects share nothing");
    StageRatios one = Check.busy();
    StageRatios other = new StageRatios();
    due("size(0)", other.size(0), 0);
    due("mass()", other.mass(), -1);
    lay(other, THREE);
    due("mass() of the first", one.mass(), 20);
    due("NONE", StageRatios.NONE, -1);
  }

  private static void bounds() {
    sentence("34: from low to high (0 .. MOST, low no more than high): high less low as it was");
    act("bounds(0, 0, 16)", () -> with(THREE), x -> x.bounds(0, 0, 16), 16);
    act("bounds(0, 0, 0)", () -> with(THREE), x -> x.bounds(0, 0, 0), 16);
    act("bounds(0, 16, 16)", () -> with(THREE), x -> x.bounds(0, 16, 16), 16);
    act("bounds(1, 0, 1)", () -> with(THREE), x -> x.bounds(1, 0, 1), 1);
    act("bounds(2, 7, 8)", () -> with(THREE), x -> x.bounds(2, 7, 8), 8);
    StageRatios y = with(THREE);
    int[][] inTurn = {{3, 3, 16}, {0, 16, 0}, {1, 15, 16}, {2, 5, 14}, {2, 6, 3}};
    for (int[] n : inTurn) {
      due("bounds(0, " + n[0] + ", " + n[1] + ")", y.bounds(0, n[0], n[1]), n[2]);
      due("LOW", y.box(0, false), n[0]);
      due("HIGH", y.box(0, true), n[1]);
    }
    due("another STAGE's HIGH", y.box(2, true), 8);
    sentence("34: the DIVISION stays, in THE BOX or not");
    y.bounds(0, 0, 0);
    due("FUEL", y.part(0, 0), 16);
    sentence("34: NONE: 1 (no such STAGE); 2: the box stays");
    int[][] wrong = {{-1, 5}, {MIN, 0}, {0, 6}, {5, 6}, {0, MAX}, {6, 6}, {3, 2}, {5, 4}, {1, 0}, {0, -1}, {-2, -1}, {MAX, MIN}, {MIN, MAX}};
    for (int[] n : wrong) {
      refused("bounds(0, " + n[0] + ", " + n[1] + ")", Check::busy, x -> x.bounds(0, n[0], n[1]), -1, 2);
      refused("bounds(2, " + n[0] + ", " + n[1] + ")", Check::busy, x -> x.bounds(2, n[0], n[1]), -1, 1);
    }
    refused("bounds(1, 0, 5): another STAGE's MOST", Check::busy, x -> x.bounds(1, 0, 5), -1, 2);
    for (int s : new int[] {MIN, -1, 2, 3, MAX}) {
      refused("bounds(" + s + ", 0, 1)", Check::busy, x -> x.bounds(s, 0, 1), -1, 1);
    }
    refused("bounds(0, 0, 0) without a ROCKET", StageRatios::new, x -> x.bounds(0, 0, 0), -1, 1);
    refused("bounds(0, 1, 0) without a ROCKET", StageRatios::new, x -> x.bounds(0, 1, 0), -1, 1);
  }

  private static void loads() {
    sentence("35: FUEL of a STAGE is so much (0 .. MOST): what it was");
    act("load(0, 0)", () -> with(THREE), x -> x.load(0, 0), 16);
    act("load(0, 16)", () -> with(THREE), x -> x.load(0, 16), 16);
    act("load(1, 1)", () -> loaded(THREE, 3, 0, 5), x -> x.load(1, 1), 0);
    act("load(2, 8)", () -> loaded(THREE, 3, 0, 5), x -> x.load(2, 8), 5);
    StageRatios y = loaded(THREE, 3, 0, 5);
    due("FUEL of 0", y.part(0, 0), 3);
    due("FUEL of 1", y.part(1, 0), 0);
    due("FUEL of 2", y.part(2, 0), 5);
    sentence("III, 35: by hand (in THE BOX or not)");
    y.bounds(0, 4, 5);
    due("one below LOW", y.load(0, 3), 3);
    due("one above HIGH", y.load(0, 6), 3);
    due("FUEL", y.part(0, 0), 6);
    sentence("35: NONE: 1 (no such STAGE); 2 (0 .. MOST)");
    for (int fuel : new int[] {MIN, -1, 6, MAX}) {
      refused("load(0, " + fuel + ")", Check::busy, x -> x.load(0, fuel), -1, 2);
      refused("load(2, " + fuel + ")", Check::busy, x -> x.load(2, fuel), -1, 1);
    }
    refused("load(1, 5): another STAGE's MOST", Check::busy, x -> x.load(1, 5), -1, 2);
    for (int s : new int[] {MIN, -1, 2, 3, MAX}) {
      refused("load(" + s + ", 0)", Check::busy, x -> x.load(s, 0), -1, 1);
    }
    refused("load(0, 0) without a ROCKET", StageRatios::new, x -> x.load(0, 0), -1, 1);
    refused("load(0, 99) without a ROCKET", StageRatios::new, x -> x.load(0, 99), -1, 1);
  }

  private static void adopts() {
    sentence("36: BEST for POWER is the DIVISION: its MASS: all its STAGES, as one ACT");
    act("adopt()", () -> with(FIVE), x -> x.adopt(), 17);
    act("adopt() of three", () -> with(THREE), x -> x.adopt(), 5);
    StageRatios y = with(THREE);
    y.adopt();
    int[] fuel = {0, 0, 1};
    for (int s = 0; s < 3; s++) {
      due("FUEL of " + s, y.part(s, 0), fuel[s]);
    }
    due("size(1)", y.size(1), 1);
    due("mass()", y.mass(), 5);
    sentence("36: what is BEST already is laid anew, and is an ACT");
    due("adopt() again", y.adopt(), 5);
    due("size(1)", y.size(1), 2);
    sentence("36: in THE BOX: LOW and HIGH themselves");
    y.bounds(0, 2, 16);
    due("adopt() from LOW", y.adopt(), 6);
    due("FUEL of 0", y.part(0, 0), 2);
    sentence("36: NONE: 1 (no ROCKET); 5 (there is none): the DIVISION stays");
    refused("adopt() beyond HIGH", () -> { StageRatios x = with(FIVE); x.bounds(0, 0, 1); return x; }, x -> x.adopt(), -1, 5);
    act("adopt() of HIGH", () -> { StageRatios x = with(FIVE); x.bounds(0, 0, 2); return x; }, x -> x.adopt(), 17);
    refused("adopt() of none that HOLDS", () -> { StageRatios x = with(FIVE); x.bounds(0, 5, 5); return x; }, x -> x.adopt(), -1, 5);
    act("adopt() of the greatest POWER there is a BEST for", () -> { StageRatios x = with(FIVE); x.power(4); return x; }, x -> x.adopt(), 19);
    refused("adopt() of one more", () -> { StageRatios x = with(FIVE); x.power(5); return x; }, x -> x.adopt(), -1, 5);
    refused("adopt() without a ROCKET", StageRatios::new, x -> x.adopt(), -1, 1);
  }

  private static void payloadAndPower() {
    sentence("37: PAYLOAD (1 .. 40): what it was");
    act("payload(1)", Check::busy, x -> x.payload(1), 3);
    act("payload(40)", Check::busy, x -> x.payload(40), 3);
    act("payload(3): as it is", Check::busy, x -> x.payload(3), 3);
    StageRatios y = with(FIVE);
    due("payload(40)", y.payload(40), 10);
    due("mass()", y.mass(), 50);
    due("payload(1)", y.payload(1), 40);
    due("mass()", y.mass(), 11);
    due("least(0)", y.least(0), 6);
    sentence("37: NONE: 1; 2");
    for (int v : new int[] {MIN, -1, 0, 41, MAX}) {
      refused("payload(" + v + ")", Check::busy, x -> x.payload(v), -1, 2);
      refused("payload(" + v + ") without a ROCKET", StageRatios::new, x -> x.payload(v), -1, 1);
    }
    refused("payload(1) without a ROCKET", StageRatios::new, x -> x.payload(1), -1, 1);
    sentence("38: POWER (1 .. 12): what it was");
    act("power(1)", Check::busy, x -> x.power(1), 1);
    act("power(12)", Check::busy, x -> x.power(12), 1);
    y = with(FIVE);
    due("power(12)", y.power(12), 2);
    due("power(1)", y.power(1), 12);
    due("adopt()", y.adopt(), 16);
    sentence("38: NONE: 1; 2");
    for (int v : new int[] {MIN, -1, 0, 13, MAX}) {
      refused("power(" + v + ")", Check::busy, x -> x.power(v), -1, 2);
      refused("power(" + v + ") without a ROCKET", StageRatios::new, x -> x.power(v), -1, 1);
    }
    refused("power(1) without a ROCKET", StageRatios::new, x -> x.power(1), -1, 1);
  }

  private static void undone() {
    sentence("39: false: 1 (there is nothing): without a ROCKET, without an ACT, behind the last one, behind a new ROCKET");
    refused("undo() without a ROCKET", StageRatios::new, x -> x.undo() ? 1 : 0, 0, 1);
    refused("undo() without an ACT", () -> with(TWO), x -> x.undo() ? 1 : 0, 0, 1);
    refused("undo() behind the last one", () -> { StageRatios x = loaded(TWO, 1); x.undo(); return x; }, x -> x.undo() ? 1 : 0, 0, 1);
    refused("undo() behind a new ROCKET", () -> { StageRatios x = Check.busy(); x.rocket(0); lay(x, TWO); return x; }, x -> x.undo() ? 1 : 0, 0, 1);
    sentence("III, 39: UNDO: the latest ACT not undone yet: each sort, one by one");
    StageRatios x = with(FIVE);
    String[] states = new String[6];
    Ask[] acts = {y -> y.bounds(0, 1, 4), y -> y.load(0, 0), y -> y.adopt(), y -> y.payload(9), y -> y.power(1)};
    for (int i = 0; i < 5; i++) {
      states[i] = StageState.of(x);
      due("act " + i, acts[i].of(x) >= 0 ? 1 : 0, 1);
    }
    for (int i = 4; i >= 0; i--) {
      due("undo()", x.undo() ? 1 : 0, 1);
      same("the state after undo of act " + i, StageState.of(x), states[i]);
    }
    sentence("III, 39: what was undone is not undone again; an ACT behind it is the latest");
    x = with(FIVE);
    x.payload(11);
    x.payload(12);
    x.undo();
    x.payload(13);
    due("undo()", x.undo() ? 1 : 0, 1);
    due("PAYLOAD", x.about(0), 11);
    due("undo()", x.undo() ? 1 : 0, 1);
    due("PAYLOAD", x.about(0), 10);
    due("undo()", x.undo() ? 1 : 0, 0);
    sentence("III, 39: (10 are kept): nine, ten, eleven, many");
    for (int n : new int[] {1, 9, 10, 11, 12, 25}) {
      x = with(FIVE);
      for (int i = 1; i <= n; i++) {
        x.payload(10 + i);
        due("size(1) after " + i, x.size(1), i < 10 ? i : 10);
      }
      int kept = n < 10 ? n : 10;
      for (int i = 1; i <= kept; i++) {
        due("undo " + i + " of " + n, x.undo() ? 1 : 0, 1);
        due("PAYLOAD", x.about(0), 10 + n - i);
        due("size(1)", x.size(1), kept - i);
      }
      due("undo behind " + n, x.undo() ? 1 : 0, 0);
      due("trouble()", x.trouble(), 1);
      due("PAYLOAD", x.about(0), 10 + n - kept);
    }
    sentence("III, 39: (10 are kept): room again behind an UNDO");
    x = with(FIVE);
    for (int i = 1; i <= 10; i++) {
      x.payload(10 + i);
    }
    x.undo();
    x.payload(30);
    for (int i = 9; i >= 0; i--) {
      due("undo", x.undo() ? 1 : 0, 1);
      due("PAYLOAD", x.about(0), 10 + i);
    }
    due("undo", x.undo() ? 1 : 0, 0);
    sentence("III: a refused call is no ACT");
    x = with(FIVE);
    x.payload(11);
    x.payload(0);
    x.power(13);
    x.load(0, 6);
    x.bounds(0, 4, 3);
    due("size(1)", x.size(1), 1);
    x.undo();
    due("PAYLOAD", x.about(0), 10);
  }

  /** The state but what can be undone. */
  private static final class StageState {
    static String of(StageRatios x) {
      String state = state(x);
      return state.substring(state.indexOf("fault"));
    }
  }

  private static void weakAndSize() {
    String text = head(1, 2, 1, 1, 0) + stage("a oil", 1, 0, 1, 1, 1, 1, 400, 0) + stage("b oil", 1, 0, 1, 1, 9, 1, 0, 0)
        + stage("c oil", 1, 0, 1, 1, 1, 1, 400, 0);
    sentence("40: The i-th STAGE, by numbers, that doesn't HOLD: from 0 on");
    StageRatios x = with(text);
    due("weak(0)", weakOf(x, 0), 0);
    due("weak(1)", weakOf(x, 1), 2);
    sentence("40: NoSuchElementException if there is none such");
    for (int i : new int[] {MIN, -1, 2, 3, MAX}) {
      due("weak(" + i + ")", weakOf(x, i), THROWN);
    }
    for (int i : new int[] {MIN, -1, 0, 1, MAX}) {
      due("weak(" + i + ") of none", weakOf(with(THREE), i), THROWN);
      due("weak(" + i + ") without a ROCKET", weakOf(new StageRatios(), i), THROWN);
    }
    x = with(text.replace("thrust 9 flow 1 least 0", "thrust 1 flow 1 least 400"));
    for (int i = 0; i < 3; i++) {
      due("weak(" + i + ") of three", weakOf(x, i), i);
    }
    due("weak(3) of three", weakOf(x, 3), THROWN);
    sentence("40: what is as much as LEAST HOLDS");
    x = with(FIVE.replace("least 400", "least 395"));
    due("395 by 395", weakOf(x, 0), THROWN);
    x = with(FIVE.replace("least 400", "least 396"));
    due("395 by 396", weakOf(x, 0), 0);
    sentence("40: it leaves all as it was");
    x = Check.busy();
    weakOf(x, 0);
    weakOf(x, 9);
    same("the state", state(x), state(Check.busy()));

    sentence("41: 0 bytes of THE TAPE: none, all, and none behind rocket()");
    x = new StageRatios();
    due("size(0)", x.size(0), 0);
    for (int i = 0; i < 35; i++) {
      x.feed(0, 0, 0, 0, 0);
    }
    due("size(0)", x.size(0), 700);
    x.feed(0, 0, 0, 0, 0);
    due("size(0)", x.size(0), 700);
    x.rocket(0);
    due("size(0)", x.size(0), 0);
    sentence("41: NONE for others");
    for (int what : new int[] {MIN, -1, 2, 3, MAX}) {
      due("size(" + what + ")", x.size(what), -1);
      due("size(" + what + ") of a busy one", Check.busy().size(what), -1);
    }
    due("size(1) of a busy one", Check.busy().size(1), 4);
    due("size(0) of a busy one", Check.busy().size(0), 20);
  }

  private static Ask[] answered() {
    return new Ask[] {x -> x.about(0), x -> x.stage(0, 0), x -> x.part(0, 0), x -> x.margin(0, 0), x -> x.spare(0), x -> x.mass(), x -> x.reaches(0),
      x -> x.greatest(), x -> x.speed(true), x -> x.holds(), x -> { x.load(0, 0); x.load(2, 0); x.payload(0); return x.richer(0, 2); },
      x -> x.least(0), x -> x.fuel(0, 0), x -> x.farthest(), x -> x.lifts(), x -> x.needs(0), x -> x.fronts(), x -> x.front(0, 0),
      x -> x.beaten(), x -> x.box(0, true), x -> x.range(0, 0, true), x -> x.ways(0), x -> x.flight(0), x -> x.tick(1, 0), x -> x.risk(0, 1),
      x -> x.riskiest(), x -> x.arrives(), x -> x.flown(true), x -> x.bounds(0, 0, 1), x -> x.load(0, 1), x -> x.adopt(), x -> x.payload(1),
      x -> x.power(1), x -> x.undo() ? 1 : 0};
  }

  private static void troubles() {
    sentence("IV, 42: 0 it wasn't: each call that may be refused, behind a refusal");
    Ask[] calls = answered();
    for (int i = 0; i < calls.length; i++) {
      StageRatios x = with(THREE);
      x.power(2);
      x.payload(0);
      due("trouble()", x.trouble(), 2);
      calls[i].of(x);
      due("trouble() after call " + i, x.trouble(), 0);
    }
    StageRatios x = Check.busy();
    x.payload(0);
    x.rocket(0);
    lay(x, ONE);
    due("trouble() after rocket()", x.trouble(), 0);
    sentence("IV, 42: an answer of -2 or 0 that isn't a refusal is none");
    x = with(FIVE);
    x.payload(0);
    due("least(5)", x.least(5), -2);
    due("trouble()", x.trouble(), 0);
    x.payload(0);
    due("spare(0)", x.spare(0), -2);
    due("trouble()", x.trouble(), 0);
    sentence("IV, 42: 1 comes first without a ROCKET: each call");
    for (int i = 0; i < calls.length; i++) {
      x = new StageRatios();
      x.rocket(-1);
      due("trouble()", x.trouble(), 2);
      due("call " + i, calls[i].of(x) > 0 ? 1 : 0, 0);
      due("trouble() after call " + i, x.trouble(), 1);
    }
    sentence("IV, 42: 2, 4, 5, and 1 behind each other");
    x = with(FIVE);
    x.power(0);
    due("a number", x.trouble(), 2);
    x.rocket(0);
    due("a FAULT", x.trouble(), 4);
    x.power(12);
    x.adopt();
    due("not so", x.trouble(), 5);
    x.about(7);
    due("none such", x.trouble(), 1);
    sentence("IV, 42: those of which no number is told leave it");
    for (int number : new int[] {0, 1, 2, 4, 5}) {
      x = with(FIVE);
      x.power(12);
      if (number == 1) x.undo();
      if (number == 1) x.undo();
      if (number == 2) x.payload(0);
      if (number == 4) x.rocket(0);
      if (number == 5) x.adopt();
      due("trouble()", x.trouble(), number);
      int place = number == 4 ? 0 : -1;
      x.feed(0, 0, 0, 0, 0);
      due("trouble() after feed()", x.trouble(), number);
      for (int i = 0; i < 35; i++) {
        x.feed(0, 0, 0, 0, 0);
      }
      due("trouble() after feed() that takes none", x.trouble(), number);
      x.fault();
      x.size(0);
      x.size(1);
      x.size(2);
      due("trouble() after fault() and size()", x.trouble(), number);
      due("where()", x.where(), place);
      weakOf(x, 0);
      weakOf(x, -1);
      due("trouble() after weak()", x.trouble(), number);
      due("trouble() after trouble()", x.trouble(), number);
      due("where()", x.where(), place);
    }
  }

  private static void lastCall() {
    sentence("an object is used for at most 512 calls: the last one answers still");
    StageRatios x = new StageRatios();
    int calls = 0;
    for (int i = 0; i < ONE.length(); i += 20) {
      calls++;
    }
    lay(x, ONE);
    calls++;
    for (int v = 1; calls < 509; calls++) {
      x.payload(v);
      v = v % 40 + 1;
    }
    int payload = x.about(0);
    due("call 511", x.payload(payload % 40 + 1), payload);
    due("call 512", x.lifts(), 2);
    x = new StageRatios();
    for (int i = 1; i < 512; i++) {
      x.rocket(0);
    }
    due("rocket() as call 512", x.rocket(0), -1);
    x = new StageRatios();
    for (int i = 1; i <= 256; i++) {
      due("feed", x.feed(0, 0, 0, 0, 0), 20);
      due("rocket", x.rocket(20), -1);
    }
  }

  public static void main(String[] args) {
    newObject();
    bounds();
    loads();
    adopts();
    payloadAndPower();
    undone();
    weakAndSize();
    troubles();
    lastCall();
    end();
  }
}
