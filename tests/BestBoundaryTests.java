// The boundary cases of Terms II (BEST, THE BOX, THE FRONT) and of promises 17 to 27.
public final class BestBoundaryTests extends Check {
  /** FUEL f: START 15 + f, RATIO (15 + f) by 15, squared; it HOLDS up to 4. */
  private static final String FIVE = head(10, 11, 10, 2, 0) + stage("a solid", 5, 0, 5, 1, 79, 5, 400, 0);
  /** A unit weighs the same in all three and counts the most in the uppermost; each alone reaches 1. */
  private static final String LIKE = head(10, 99, 98, 1, 0) + stage("a oil", 1, 0, 1, 1, 9, 1, 0, 0) + stage("b oil", 1, 0, 1, 1, 9, 1, 0, 0)
      + stage("c oil", 1, 0, 1, 1, 9, 1, 0, 0);
  /** Alone a's unit weighs 1 and b's 2, and both give 4 by 3: 3 without FUEL, 4, 5, 6 with both. */
  private static final String ALIKE = head(1, 3, 2, 1, 0) + stage("a gas", 1, 0, 1, 1, 9, 1, 0, 0) + stage("b gas", 1, 50, 1, 1, 9, 1, 0, 0);

  private static StageRatios boxed(String text, int... lowHigh) {
    StageRatios x = with(text);
    for (int s = 0; 2 * s + 1 < lowHigh.length; s++) {
      x.bounds(s, lowHigh[2 * s], lowHigh[2 * s + 1]);
    }
    return x;
  }

  private static StageRatios laid(StageRatios x, int... fuel) {
    for (int s = 0; s < fuel.length; s++) {
      x.load(s, fuel[s]);
    }
    return x;
  }

  private static void best() {
    sentence("II, 17: BEST: in THE BOX: at first 0 to MOST, LOW and HIGH themselves, not beyond");
    int[] least = {15, 16, 17, 18, 19, -2};
    int[] within = {17, 17, 17, 18, -2, -2};
    for (int i = 0; i < 6; i++) {
      int k = i;
      only("least(" + k + ")", () -> with(FIVE), x -> x.least(k), least[k]);
      only("least(" + k + ") from 2 to 3", () -> boxed(FIVE, 2, 3), x -> x.least(k), within[k]);
    }
    only("least(0) from 0 to 0", () -> boxed(FIVE, 0, 0), x -> x.least(0), 15);
    only("least(1) from 0 to 0", () -> boxed(FIVE, 0, 0), x -> x.least(1), -2);
    only("least(0) from 4 to 4", () -> boxed(FIVE, 4, 4), x -> x.least(0), 19);
    only("least(4) from 4 to 4", () -> boxed(FIVE, 4, 4), x -> x.least(4), 19);
    sentence("II, 17: that HOLDS: -2 there is none");
    only("least(0) from 5 to 5", () -> boxed(FIVE, 5, 5), x -> x.least(0), -2);
    only("least(0) from 4 to 5", () -> boxed(FIVE, 4, 5), x -> x.least(0), 19);
    only("least(0) of none that HOLDS", () -> with(FIVE.replace("thrust 79", "thrust 1")), x -> x.least(0), -2);
    sentence("II, 17: and REACHES k: SPEED as much as MARK's power");
    String exact = FIVE.replace("mark 11 by 10", "mark 4 by 3").replace("least 400", "least 0");
    only("least(2)", () -> with(exact), x -> x.least(2), 20);
    only("least(2) with a little more of MARK", () -> with(exact.replace("mark 4 by 3", "mark 95 by 71")), x -> x.least(2), -2);
    sentence("II, 17: for 0 any that HOLDS, without FUEL too");
    only("least(0)", () -> with(TWO.replace("least 150", "least 0").replace("least 60", "least 0")), x -> x.least(0), 11);

    only("fuel(0, 0)", () -> with(FIVE), x -> x.fuel(0, 0), 0);
    only("fuel(0, 1)", () -> with(ALIKE), x -> x.fuel(0, 1), 0);

    sentence("II: of like ones that of the least FUEL of STAGE 0, then 1, and so on");
    for (int s = 0; s < 3; s++) {
      int of = s;
      only("fuel(1, " + s + ")", () -> with(LIKE), x -> x.fuel(1, of), s == 2 ? 1 : 0);
      only("fuel(1, " + s + ") without c", () -> boxed(LIKE, 0, 1, 0, 1, 0, 0), x -> x.fuel(1, of), s == 1 ? 1 : 0);
      only("fuel(1, " + s + ") without b and c", () -> boxed(LIKE, 0, 1, 0, 0, 0, 0), x -> x.fuel(1, of), s == 0 ? 1 : 0);
    }
    sentence("II: of like MASS: not that of more SPEED");
    String lower = LIKE.replace("stage c oil", "stage c solid").replace("stage b oil", "stage b solid").replace("stage a oil", "stage a gas");
    only("least(1)", () -> with(lower), x -> x.least(1), 14);
    only("fuel(1, 0)", () -> with(lower), x -> x.fuel(1, 0), 0);
    only("fuel(1, 2)", () -> with(lower), x -> x.fuel(1, 2), 1);

    sentence("17: a power (0 .. 40); NONE: 1 (no ROCKET); 2");
    String fine = head(10, 99, 98, 1, 0) + stage("a solid", 12, 0, 5, 1, 1, 1, 0, 0);
    only("least(40)", () -> with(fine), x -> x.least(40), 27);
    only("least(40) without", () -> boxed(fine, 0, 4), x -> x.least(40), -2);
    only("fuel(40, 0)", () -> with(fine), x -> x.fuel(40, 0), 5);
    only("fuel(40, 0) without", () -> boxed(fine, 0, 4), x -> x.fuel(40, 0), -2);
    for (int k : new int[] {MIN, -1, 41, MAX}) {
      refused("least(" + k + ")", Check::busy, x -> x.least(k), -1, 2);
      refused("least(" + k + ") without a ROCKET", StageRatios::new, x -> x.least(k), -1, 1);
    }
    refused("least(0) without a ROCKET", StageRatios::new, x -> x.least(0), -1, 1);
    sentence("18: NONE: 1 (no such STAGE); 2");
    only("fuel(0, 1)", Check::busy, x -> x.fuel(0, 1), 1);
    only("fuel(40, 1): there is none", Check::busy, x -> x.fuel(40, 1), -2);
    for (int k : new int[] {MIN, -1, 41, MAX}) {
      refused("fuel(" + k + ", 0)", Check::busy, x -> x.fuel(k, 0), -1, 2);
    }
    for (int s : new int[] {MIN, -1, 2, 3, MAX}) {
      refused("fuel(0, " + s + ")", Check::busy, x -> x.fuel(0, s), -1, 1);
      refused("fuel(41, " + s + ")", Check::busy, x -> x.fuel(41, s), -1, 1);
    }
    refused("fuel(0, 0) without a ROCKET", StageRatios::new, x -> x.fuel(0, 0), -1, 1);
    refused("fuel(41, 0) without a ROCKET", StageRatios::new, x -> x.fuel(41, 0), -1, 1);

    sentence("19: The greatest power (0 .. 40) for which there is a BEST; -2 there is none for 0");
    only("none", () -> boxed(FIVE, 5, 5), x -> x.farthest(), -2);
    only("0 alone", () -> boxed(FIVE, 0, 0), x -> x.farthest(), 0);
    only("HIGH's", () -> boxed(FIVE, 0, 3), x -> x.farthest(), 3);
    only("as far as it HOLDS", () -> with(FIVE), x -> x.farthest(), 4);
    only("39", () -> with(fine.replace("payload 10", "payload 1").replace("dry 12", "dry 8").replace("most 5", "most 2")), x -> x.farthest(), 39);
    only("40", () -> with(fine), x -> x.farthest(), 40);
    only("40 is the greatest", () -> with(fine.replace("dry 12", "dry 1").replace("most 5", "most 16")), x -> x.farthest(), 40);
    refused("farthest() without a ROCKET", StageRatios::new, x -> x.farthest(), -1, 1);
  }

  private static void lifts() {
    sentence("20: The greatest PAYLOAD (1 .. 40), all else so, with which there is a BEST for POWER; -2 none");
    // with all FUEL: PAYLOAD and 6 by PAYLOAD and 1, squared
    String six = stage("a solid", 1, 0, 5, 1, 9, 1, 0, 0);
    int[][] markLifts = {{9, 2, -2}, {99, 28, -2}, {7, 2, 1}, {8, 3, 2}, {45, 40, 39}, {46, 41, 40}, {99, 98, 40}};
    for (int[] n : markLifts) {
      for (int payload : new int[] {1, 20, 40}) {
        only("lifts() by MARK " + n[0] + " by " + n[1] + ", PAYLOAD " + payload, () -> with(head(payload, n[0], n[1], 2, 0) + six), x -> x.lifts(), n[2]);
      }
    }
    sentence("20: all else so: in THE BOX, that HOLDS, for POWER as it is");
    only("in THE BOX", () -> boxed(head(1, 8, 7, 1, 0) + six, 0, 1), x -> x.lifts(), 13);
    // 1600 by PAYLOAD, 1 and FUEL no less than 400: 2, 1 and 1
    only("that HOLDS", () -> with(head(1, 99, 98, 1, 0) + six.replace("thrust 9", "thrust 16").replace("least 0", "least 400")), x -> x.lifts(), 2);
    only("that HOLDS", () -> with(head(1, 99, 98, 1, 0) + six.replace("thrust 9", "thrust 15").replace("least 0", "least 400")), x -> x.lifts(), 1);
    only("none HOLDS", () -> with(head(1, 99, 98, 1, 0) + six.replace("least 0", "least 400").replace("thrust 9", "thrust 1")), x -> x.lifts(), -2);
    only("for POWER", () -> { StageRatios x = with(head(1, 46, 41, 2, 0) + six); x.power(3); return x; }, x -> x.lifts(), 25);
    refused("lifts() without a ROCKET", StageRatios::new, x -> x.lifts(), -1, 1);
  }

  private static void needs() {
    sentence("21: How much more MASS BEST for POWER has, if a STAGE has no FUEL");
    only("needs(0): BEST has none of it", () -> with(LIKE), x -> x.needs(0), 0);
    only("needs(2): another one is as light", () -> with(LIKE), x -> x.needs(2), 0);
    only("needs(0): b weighs more", () -> with(ALIKE.replace("mark 3 by 2", "mark 4 by 3")), x -> x.needs(0), 1);
    only("needs(1)", () -> with(ALIKE.replace("mark 3 by 2", "mark 4 by 3")), x -> x.needs(1), 0);
    sentence("21: -2 there is none then");
    only("of one STAGE", () -> with(FIVE), x -> x.needs(0), -2);
    only("both are needed", () -> with(ALIKE.replace("power 1", "power 3")), x -> x.needs(1), -2);
    sentence("21: -2 (or none at all)");
    only("none reaches", () -> with(FIVE.replace("power 2", "power 12")), x -> x.needs(0), -2);
    String weak = head(10, 99, 98, 1, 0) + stage("a oil", 1, 0, 9, 1, 14, 1, 100, 0) + stage("b oil", 1, 0, 1, 1, 9, 1, 0, 0);
    only("LOW's doesn't HOLD, none would", () -> boxed(weak, 9, 9, 0, 1), x -> x.needs(0), -2);
    due("without it there is one", boxed(weak, 0, 0, 0, 1).least(1), 13);
    sentence("21: (whatever its LOW)");
    only("LOW as HIGH", () -> boxed(LIKE, 1, 1, 1, 1, 1, 1), x -> x.needs(2), -1);
    only("the others' LOW counts", () -> boxed(LIKE, 1, 1, 0, 1, 0, 1), x -> x.needs(2), 0);
    sentence("21: NONE: 1");
    for (int s : new int[] {MIN, -1, 2, 3, MAX}) {
      refused("needs(" + s + ")", Check::busy, x -> x.needs(s), -1, 1);
    }
    only("needs(1)", Check::busy, x -> x.needs(1), -2);
    refused("needs(0) without a ROCKET", StageRatios::new, x -> x.needs(0), -1, 1);
  }

  private static void mustFront(String what, Make make, int[][] front) {
    only("fronts() " + what, make, x -> x.fronts(), front.length);
    for (int i = 0; i < front.length; i++) {
      StageRatios x = make.it();
      for (int k = 0; k < front[i].length; k++) {
        due("front(" + i + ", " + (k == 0 ? 0 : k + 1) + ") " + what, x.front(i, k == 0 ? 0 : k + 1), front[i][k]);
      }
    }
    due("front(count, 0) " + what, make.it().front(front.length, 0), -1);
  }

  private static void front() {
    sentence("II, 22: THE FRONT: of the DIVISIONS in THE BOX that HOLD: none");
    mustFront("of none that HOLDS", () -> boxed(FIVE, 5, 5), new int[0][]);
    sentence("II, 22: one alone");
    mustFront("of one", () -> boxed(FIVE, 4, 4), new int[][] {{19, 4, -2, -2}});
    sentence("II, 22: LOW and HIGH count, what doesn't HOLD does not");
    mustFront("from 3", () -> boxed(FIVE, 3, 5), new int[][] {{18, 3, -2, -2}, {19, 4, -2, -2}});
    sentence("II: by each MASS the one of greatest SPEED");
    mustFront("of like MASS", () -> with(LIKE), new int[][] {{13, 0, 0, 0}, {14, 0, 0, 1}, {15, 0, 1, 1}, {16, 1, 1, 1}});
    // of like MASS less by 6.7 of 10 to 10
    mustFront("of like MASS, a little more SPEED", () -> boxed(head(36, 3, 2, 1, 0) + stage("a oil", 42, 30, 16, 1, 1, 1, 0, 0)
        + stage("b oil", 2, 56, 14, 1, 1, 1, 0, 0) + stage("c solid", 43, 61, 14, 1, 1, 1, 0, 0), 15, 16, 14, 14, 5, 6),
        new int[][] {{174, 15, 14, 5}, {175, 16, 14, 5}, {176, 16, 14, 6}});
    sentence("II: (of like ones that of the least FUEL of STAGE 0, then 1, and so on)");
    String tie = head(1, 3, 2, 1, 0) + stage("a oil", 4, 0, 3, 1, 9, 1, 0, 0) + stage("b oil", 1, 1, 1, 1, 9, 1, 0, 0);
    mustFront("of like MASS and SPEED", () -> with(tie),
        new int[][] {{6, 0, 0}, {7, 1, 0}, {8, 0, 1}, {9, 1, 1}, {10, 2, 1}, {11, 3, 1}});
    String then = head(3, 3, 2, 1, 0) + stage("a oil", 4, 0, 1, 1, 9, 1, 0, 0) + stage("b gas", 4, 0, 2, 1, 9, 1, 0, 0)
        + stage("c gas", 1, 3, 4, 1, 9, 1, 0, 0);
    StageRatios x = with(then);
    due("front(2, 0)", x.front(2, 0), 16);
    due("front(2, 2)", x.front(2, 2), 0);
    due("front(2, 3)", x.front(2, 3), 0);
    due("front(2, 4)", x.front(2, 4), 1);
    sentence("II: but those for which one of less MASS has no less SPEED: as much");
    mustFront("of like SPEED", () -> with(ALIKE), new int[][] {{3, 0, 0}, {4, 1, 0}, {6, 1, 1}});
    sentence("II: but those for which one of less MASS has no less SPEED: a little less, a little more");
    // that of MASS 86 is below that of 85 by 8.4 of 10 to 10
    x = with(head(37, 3, 2, 1, 0) + stage("a oil", 27, 21, 12, 1, 9, 1, 0, 0) + stage("b solid", 1, 52, 16, 1, 9, 1, 0, 0));
    due("fronts()", x.fronts(), 33);
    due("front(19, 0)", x.front(19, 0), 85);
    due("front(20, 0)", x.front(20, 0), 87);
    // that of MASS 151 is above that of 150 by 1.6 of 10 to 8
    x = with(head(13, 3, 2, 1, 0) + stage("a gas", 25, 38, 7, 1, 9, 1, 0, 0) + stage("b solid", 38, 39, 11, 1, 9, 1, 0, 0)
        + stage("c solid", 49, 50, 13, 1, 9, 1, 0, 0));
    due("fronts()", x.fronts(), 39);
    int[][] near = {{150, 5, 0, 4}, {151, 3, 0, 6}};
    for (int i = 0; i < 2; i++) {
      due("front(" + (11 + i) + ", 0)", x.front(11 + i, 0), near[i][0]);
      for (int s = 0; s < 3; s++) {
        due("front(" + (11 + i) + ", " + (s + 2) + ")", x.front(11 + i, s + 2), near[i][s + 1]);
      }
    }
    sentence("22: the heaviest there can be is on it");
    StringBuilder b = new StringBuilder(head(40, 3, 2, 1, 0));
    for (int s = 0; s < 3; s++) {
      b.append(stage("abc".charAt(s) + " gas", 50, 90, 16, 1, 9, 1, 0, 0));
    }
    x = with(b.toString());
    due("the last one's MASS", x.front(x.fronts() - 1, 0), 358);
    refused("fronts() without a ROCKET", StageRatios::new, y -> y.fronts(), -1, 1);

    sentence("23: front(i, what): i from 0 on, what 0 .. 4; NONE: 1 (i, what, too)");
    int[][] five = {{15, 0, 0}, {16, 1, 1}, {17, 2, 2}, {18, 3, 3}, {19, 4, 4}};
    for (int n = 0; n < 5; n++) {
      int i = n;
      for (int w = 0; w < 3; w++) {
        int what = w;
        only("front(" + i + ", " + what + ")", () -> with(FIVE), y -> y.front(i, what), five[i][what]);
      }
      only("front(" + i + ", 3): no such STAGE", () -> with(FIVE), y -> y.front(i, 3), -2);
      only("front(" + i + ", 4): no such STAGE", () -> with(FIVE), y -> y.front(i, 4), -2);
    }
    for (int i : new int[] {MIN, -1, 5, 400, MAX}) {
      refused("front(" + i + ", 0)", () -> with(FIVE), y -> y.front(i, 0), -1, 1);
    }
    for (int what : new int[] {MIN, -1, 5, MAX}) {
      refused("front(0, " + what + ")", () -> with(FIVE), y -> y.front(0, what), -1, 1);
    }
    refused("front(0, 4) of none", () -> boxed(FIVE, 5, 5), y -> y.front(0, 4), -1, 1);
    refused("front(0, 0) without a ROCKET", StageRatios::new, y -> y.front(0, 0), -1, 1);
    only("front(0, 3) of two STAGES", () -> with(ALIKE), y -> y.front(0, 3), 0);
    only("front(0, 4) of two STAGES", () -> with(ALIKE), y -> y.front(0, 4), -2);
    only("front(3, 4) of three STAGES", () -> with(LIKE), y -> y.front(3, 4), 1);
    sentence("23: 1 the greatest power (0 .. 40)");
    String fine = head(10, 99, 98, 1, 0) + stage("a solid", 12, 0, 16, 1, 1, 1, 0, 0);
    only("front(5, 1)", () -> with(fine), y -> y.front(5, 1), 40);
    only("front(16, 1)", () -> with(fine), y -> y.front(16, 1), 40);
  }

  private static void beaten() {
    sentence("24: weighs no less, and has no more SPEED, than some other one of THE FRONT (a MASS less, or SPEED more)");
    only("it is of THE FRONT itself", () -> loaded(FIVE, 4), y -> y.beaten(), 0);
    only("like SPEED, a MASS less", () -> loaded(ALIKE, 0, 1), y -> y.beaten(), 1);
    only("like MASS, SPEED more", () -> loaded(LIKE, 0, 1, 0), y -> y.beaten(), 1);
    String tie = head(1, 3, 2, 1, 0) + stage("a oil", 4, 0, 3, 1, 9, 1, 0, 0) + stage("b oil", 1, 1, 1, 1, 9, 1, 0, 0);
    only("like MASS, like SPEED", () -> loaded(tie, 2, 0), y -> y.beaten(), 0);
    only("the one of THE FRONT that is like it", () -> loaded(tie, 0, 1), y -> y.beaten(), 0);
    only("less MASS, SPEED more", () -> laid(boxed(LIKE, 0, 0, 0, 0, 0, 1), 1, 0, 0), y -> y.beaten(), 1);
    only("more SPEED than all of THE FRONT", () -> boxed(LIKE, 0, 0, 0, 0, 0, 1), y -> y.beaten(), 0);
    only("less MASS than all of THE FRONT", () -> laid(boxed(LIKE, 1, 1, 1, 1, 1, 1), 0, 0, 0), y -> y.beaten(), 0);
    StageRatios x = with(LIKE);
    due("fronts()", x.fronts(), 4);
    x.bounds(2, 0, 1);
    x.bounds(1, 0, 0);
    x.bounds(0, 0, 0);
    laid(x, 1, 1, 0);
    due("only by what THE FRONT as it was had", x.beaten(), 0);
    due("fronts()", x.fronts(), 2);
    only("it doesn't HOLD: like MASS, like SPEED aren't there", () -> loaded(FIVE, 5), y -> y.beaten(), 0);
    only("no FRONT", () -> boxed(FIVE, 5, 5), y -> y.beaten(), 0);
    // its SPEED is below that of MASS 85 by 8.4 of 10 to 10
    only("a MASS less, a little more SPEED", () -> laid(boxed(head(37, 3, 2, 1, 0) + stage("a oil", 27, 21, 12, 1, 9, 1, 0, 0)
        + stage("b solid", 1, 52, 16, 1, 9, 1, 0, 0), 12, 12, 3, 3), 8, 7), y -> y.beaten(), 1);
    // its SPEED is above that of MASS 150 by 1.6 of 10 to 8
    only("a MASS less, a little less SPEED", () -> laid(boxed(head(13, 3, 2, 1, 0) + stage("a gas", 25, 38, 7, 1, 9, 1, 0, 0)
        + stage("b solid", 38, 39, 11, 1, 9, 1, 0, 0) + stage("c solid", 49, 50, 13, 1, 9, 1, 0, 0), 5, 5, 0, 0, 4, 4), 3, 0, 6), y -> y.beaten(), 0);
    refused("beaten() without a ROCKET", StageRatios::new, y -> y.beaten(), -1, 1);
  }

  private static void boxAndRange() {
    sentence("II, 25: THE BOX: for each STAGE FUEL from LOW to HIGH (0 to MOST at first)");
    StageRatios x = with(TWO);
    int[] most = {5, 4};
    for (int s = 0; s < 2; s++) {
      due("LOW", x.box(s, false), 0);
      due("HIGH", x.box(s, true), most[s]);
    }
    due("HIGH of the greatest MOST", with(ONE.replace("most 1", "most 16")).box(0, true), 16);
    only("box(1, false)", Check::busy, y -> y.box(1, false), 1);
    only("box(1, true)", Check::busy, y -> y.box(1, true), 3);
    sentence("25: NONE: 1");
    for (int s : new int[] {MIN, -1, 2, 3, MAX}) {
      refused("box(" + s + ", false)", Check::busy, y -> y.box(s, false), -1, 1);
      refused("box(" + s + ", true)", Check::busy, y -> y.box(s, true), -1, 1);
    }
    refused("box(0, true) without a ROCKET", StageRatios::new, y -> y.box(0, true), -1, 1);

    sentence("26: The least FUEL, the greatest, of all in THE BOX that HOLD and REACH a power; -2 none does");
    int[][] powerLowHigh = {{0, 0, 4}, {1, 1, 4}, {3, 3, 4}, {4, 4, 4}, {5, -2, -2}, {40, -2, -2}};
    for (int[] n : powerLowHigh) {
      only("range(" + n[0] + ", 0, false)", () -> with(FIVE), y -> y.range(n[0], 0, false), n[1]);
      only("range(" + n[0] + ", 0, true)", () -> with(FIVE), y -> y.range(n[0], 0, true), n[2]);
    }
    only("range(0, 0, false) from 2 to 3", () -> boxed(FIVE, 2, 3), y -> y.range(0, 0, false), 2);
    only("range(0, 0, true) from 2 to 3", () -> boxed(FIVE, 2, 3), y -> y.range(0, 0, true), 3);
    only("range(0, 0, true) of none that HOLDS", () -> boxed(FIVE, 5, 5), y -> y.range(0, 0, true), -2);
    String fine = head(10, 99, 98, 1, 0) + stage("a solid", 12, 0, 16, 1, 1, 1, 0, 0);
    only("range(40, 0, false)", () -> with(fine), y -> y.range(40, 0, false), 5);
    only("range(40, 0, true)", () -> with(fine), y -> y.range(40, 0, true), 16);
    for (int s = 0; s < 3; s++) {
      int of = s;
      only("range(0, " + s + ", false) of three", () -> with(LIKE), y -> y.range(0, of, false), 0);
      only("range(0, " + s + ", true) of three", () -> with(LIKE), y -> y.range(0, of, true), 1);
    }
    sentence("26: NONE: 1 (no such STAGE); 2");
    for (int k : new int[] {MIN, -1, 41, MAX}) {
      refused("range(" + k + ", 0, true)", Check::busy, y -> y.range(k, 0, true), -1, 2);
      refused("range(" + k + ", 2, true)", Check::busy, y -> y.range(k, 2, true), -1, 1);
      refused("ways(" + k + ")", Check::busy, y -> y.ways(k), -1, 2);
      refused("ways(" + k + ") without a ROCKET", StageRatios::new, y -> y.ways(k), -1, 1);
    }
    for (int s : new int[] {MIN, -1, 2, MAX}) {
      refused("range(0, " + s + ", false)", Check::busy, y -> y.range(0, s, false), -1, 1);
    }
    refused("range(0, 0, true) without a ROCKET", StageRatios::new, y -> y.range(0, 0, true), -1, 1);
    refused("range(41, 0, true) without a ROCKET", StageRatios::new, y -> y.range(41, 0, true), -1, 1);

    sentence("27: How many: none, one, all, as many as there can be");
    only("ways(5)", () -> with(FIVE), y -> y.ways(5), 0);
    only("ways(4)", () -> with(FIVE), y -> y.ways(4), 1);
    only("ways(0)", () -> with(FIVE), y -> y.ways(0), 5);
    only("ways(0) from 2 to 3", () -> boxed(FIVE, 2, 3), y -> y.ways(0), 2);
    only("ways(0) of none that HOLDS", () -> boxed(FIVE, 5, 5), y -> y.ways(0), 0);
    only("ways(40)", () -> with(fine), y -> y.ways(40), 12);
    String all = LIKE.replace("most 1", "most 16");
    due("ways(0)", with(all).ways(0), 17 * 17 * 17);
    due("ways(0) from 16 to 16", boxed(all, 16, 16, 0, 16, 16, 16).ways(0), 17);
    refused("ways(0) without a ROCKET", StageRatios::new, y -> y.ways(0), -1, 1);
  }

  public static void main(String[] args) {
    best();
    lifts();
    needs();
    front();
    beaten();
    boxAndRange();
    end();
  }
}
