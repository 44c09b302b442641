// The boundary cases of Terms II (a DIVISION) and of promises 8 to 16.
public final class DivisionBoundaryTests extends Check {
  /** PAYLOAD 1, DRY 1, one unit of FUEL: START 3, END 2. */
  private static String three(String kind) {
    return head(1, 3, 2, 1, 0) + stage("a " + kind, 1, 0, 1, 1, 1, 1, 0, 0);
  }

  private static void shells() {
    sentence("II: how much FUEL each STAGE has, 0 .. MOST; at first it has MOST of all");
    due("the least MOST", with(ONE).part(0, 0), 1);
    due("the greatest MOST", with(ONE.replace("most 1", "most 16")).part(0, 0), 16);
    due("none", loaded(ONE, 0).part(0, 0), 0);

    sentence("II: the upper WHOLE of FUEL times TANK by 100");
    int[][] fuelTankMore = {{0, 90, 0}, {16, 0, 0}, {1, 1, 1}, {1, 90, 1}, {11, 9, 1}, {2, 50, 1}, {10, 10, 1}, {3, 34, 2}, {4, 50, 2}, {16, 90, 15},
        {15, 90, 14}, {10, 90, 9}, {16, 1, 1}, {4, 25, 1}, {8, 25, 2}};
    for (int[] n : fuelTankMore) {
      for (String kind : new String[] {"solid", "oil", "gas"}) {
        StageRatios x = loaded(head(1, 2, 1, 1, 0) + stage("a " + kind, 1, n[1], 16, 1, 1, 1, 0, 0), n[0]);
        due("SHELL of " + kind + " with " + n[0] + " at TANK " + n[1], x.stage(0, 9), 1 + n[2]);
      }
    }
    sentence("II: of gas a half of DRY (the lower WHOLE) more");
    int[][] dryMore = {{1, 0}, {2, 1}, {3, 1}, {4, 2}, {49, 24}, {50, 25}};
    for (int[] n : dryMore) {
      String text = ONE.replace("dry 1", "dry " + n[0]);
      due("SHELL of gas, DRY " + n[0], with(text.replace("oil", "gas")).stage(0, 9), n[0] + n[1]);
      due("SHELL of oil, DRY " + n[0], with(text).stage(0, 9), n[0]);
      due("SHELL of solid, DRY " + n[0], with(text.replace("oil", "solid")).stage(0, 9), n[0]);
    }
  }

  private static void weights() {
    sentence("II: START: PAYLOAD, and SHELLS and FUEL of it and of all above it");
    String text = head(7, 2, 1, 1, 0) + stage("a solid", 10, 10, 9, 1, 1, 1, 0, 0) + stage("b oil", 20, 10, 8, 1, 1, 1, 0, 0)
        + stage("c gas", 30, 10, 7, 1, 1, 1, 0, 0);
    StageRatios x = with(text);
    due("the uppermost", x.part(2, 1), 7 + 30 + 15 + 1 + 7);
    due("the middle one", x.part(1, 1), 60 + 20 + 1 + 8);
    due("the lowest", x.part(0, 1), 89 + 10 + 1 + 9);
    sentence("II: END: START less FUEL: with all, with none");
    for (int s = 0; s < 3; s++) {
      due("END of " + s, x.part(s, 2), x.part(s, 1) - (9 - s));
    }
    x = loaded(text, 0, 0, 0);
    int[] start = {82, 72, 52};
    for (int s = 0; s < 3; s++) {
      due("FUEL of " + s, x.part(s, 0), 0);
      due("START of " + s, x.part(s, 1), start[s]);
      due("END of " + s, x.part(s, 2), start[s]);
    }
    sentence("II, 11: MASS: START of STAGE 0: the least and the greatest there is");
    due("the least", loaded(ONE, 0).mass(), 2);
    due("the greatest", with(head(40, 2, 1, 1, 0) + stage("a gas", 50, 90, 16, 1, 1, 1, 0, 0) + stage("b gas", 50, 90, 16, 1, 1, 1, 0, 0)
        + stage("c gas", 50, 90, 16, 1, 1, 1, 0, 0)).mass(), 358);
    only("mass()", Check::busy, y -> y.mass(), 3 + 5 + 4 + 3 + 2 + 3);
    refused("mass() without a ROCKET", StageRatios::new, y -> y.mass(), -1, 1);

    sentence("8: part(s, what): s from 0 to the last, what 0 .. 4; NONE: 1");
    int[][] parts = {{3, 20, 17, 0, 100}, {4, 12, 8, 1, 66}};
    for (int s = 0; s < 2; s++) {
      for (int what = 0; what < 5; what++) {
        int of = s;
        int asked = what;
        only("part(" + s + ", " + what + ")", Check::busy, y -> y.part(of, asked), parts[s][what]);
      }
    }
    for (int s : new int[] {MIN, -1, 2, 3, MAX}) {
      refused("part(" + s + ", 0)", Check::busy, y -> y.part(s, 0), -1, 1);
    }
    for (int what : new int[] {MIN, -1, 5, MAX}) {
      refused("part(0, " + what + ")", Check::busy, y -> y.part(0, what), -1, 1);
    }
    refused("part(0, 0) without a ROCKET", StageRatios::new, y -> y.part(0, 0), -1, 1);
    due("the third of three", with(text).part(2, 0), 7);
    due("the fourth of three", with(text).part(3, 0), -1);
  }

  private static void margins() {
    sentence("II: MARGIN: the lower WHOLE of 100 times THRUST of all others by START");
    int[][] thrustMargin = {{1, 33}, {2, 66}, {3, 100}, {4, 133}, {999, 33300}};
    for (int[] n : thrustMargin) {
      due("THRUST " + n[0] + " by 3", with(three("oil").replace("thrust 1", "thrust " + n[0])).margin(0, 0), n[1]);
    }
    String heavy = head(40, 2, 1, 1, 0) + stage("a oil", 50, 90, 16, 9, 1, 1, 0, 8);
    due("less than one hundredth", with(heavy).margin(0, 8), 0);
    due("one and more", with(heavy).margin(0, 7), 1);
    due("the greatest", loaded(ONE.replace("engines 1 thrust 1", "engines 9 thrust 999"), 0).margin(0, 0), 449550);

    sentence("9: margin(s, out): out 0 .. ENGINES");
    only("margin(0, 0)", Check::busy, y -> y.margin(0, 0), 200);
    only("margin(0, 2)", Check::busy, y -> y.margin(0, 2), 0);
    only("margin(1, 3)", Check::busy, y -> y.margin(1, 3), 0);
    only("margin(1, 2)", Check::busy, y -> y.margin(1, 2), 33);
    sentence("9: NONE: 1 (no such STAGE); 2");
    for (int out : new int[] {MIN, -1, 3, MAX}) {
      refused("margin(0, " + out + ")", Check::busy, y -> y.margin(0, out), -1, 2);
    }
    refused("margin(1, 4)", Check::busy, y -> y.margin(1, 4), -1, 2);
    for (int s : new int[] {MIN, -1, 2, 3, MAX}) {
      refused("margin(" + s + ", 0)", Check::busy, y -> y.margin(s, 0), -1, 1);
      refused("margin(" + s + ", -1)", Check::busy, y -> y.margin(s, -1), -1, 1);
    }
    refused("margin(0, 0) without a ROCKET", StageRatios::new, y -> y.margin(0, 0), -1, 1);
    refused("margin(0, -1) without a ROCKET", StageRatios::new, y -> y.margin(0, -1), -1, 1);

    sentence("II: It HOLDS, if with OUT out it is no less than LEAST: as much, one less");
    String two = three("oil").replace("thrust 1", "thrust 2");
    due("as much", with(two.replace("least 0", "least 66")).part(0, 3), 1);
    due("one less", with(two.replace("least 0", "least 67")).part(0, 3), 0);
    due("none wanted, none there", with(heavy).part(0, 3), 1);
    due("one wanted, none there", with(heavy.replace("least 0", "least 1")).part(0, 3), 0);
    due("the greatest LEAST", with(three("oil").replace("thrust 1", "thrust 12").replace("least 0", "least 400")).part(0, 3), 1);
    due("the greatest LEAST, not met", with(three("oil").replace("thrust 1", "thrust 11").replace("least 0", "least 400")).part(0, 3), 0);
    String five = three("oil").replace("engines 1", "engines 5");
    due("100 with two out", with(five.replace("least 0 out 0", "least 100 out 2")).part(0, 3), 1);
    due("66 with three out", with(five.replace("least 0 out 0", "least 100 out 3")).part(0, 3), 0);
    due("margin with OUT out", with(five.replace("out 0", "out 3")).part(0, 4), 66);

    sentence("10: spare(s): at most, so that MARGIN is no less than LEAST");
    String nine = three("oil").replace("engines 1", "engines 9");
    int[][] leastSpare = {{0, 9}, {1, 8}, {33, 8}, {34, 7}, {66, 7}, {67, 6}, {100, 6}, {266, 1}, {267, 0}, {300, 0}, {301, -2}, {400, -2}};
    for (int[] n : leastSpare) {
      String text = nine.replace("least 0", "least " + n[0]);
      only("spare(0) with LEAST " + n[0], () -> with(text), y -> y.spare(0), n[1]);
      only("spare(0) with LEAST " + n[0] + ", whatever OUT", () -> with(text.replace("out 0", "out 8")), y -> y.spare(0), n[1]);
    }
    due("of one engine", with(three("oil")).spare(0), 1);
    due("of one engine that must be", with(three("oil").replace("least 0", "least 1")).spare(0), 0);
    sentence("10: NONE: 1");
    for (int s : new int[] {MIN, -1, 2, MAX}) {
      refused("spare(" + s + ")", Check::busy, y -> y.spare(s), -1, 1);
    }
    refused("spare(0) without a ROCKET", StageRatios::new, y -> y.spare(0), -1, 1);

    sentence("II, 15: a DIVISION HOLDS, if all do: none weak, each of three the only weak one, all weak");
    String[] least = {"least 0", "least 0", "least 0"};
    for (int weak = -1; weak < 4; weak++) {
      StringBuilder b = new StringBuilder(head(1, 2, 1, 1, 0));
      for (int s = 0; s < 3; s++) {
        b.append(stage("abc".charAt(s) + " oil", 1, 0, 1, 1, 1, 1, weak == s || weak == 3 ? 400 : 0, 0));
      }
      String text = b.toString();
      only("holds() with " + weak + " weak", () -> with(text), y -> y.holds(), weak < 0 ? 1 : 0);
      for (int s = 0; s < 3; s++) {
        due("part(" + s + ", 3) with " + weak + " weak", with(text).part(s, 3), weak == s || weak == 3 ? 0 : 1);
      }
    }
    refused("holds() without a ROCKET", StageRatios::new, y -> y.holds(), -1, 1);
  }

  private static void speeds() {
    sentence("II: RATIO: START by END, each to its GRADE (solid 2, oil 3, gas 4)");
    int[][] nines = {{9, 4}, {27, 8}, {81, 16}};
    String[] kinds = {"solid", "oil", "gas"};
    for (int i = 0; i < 3; i++) {
      due("speed(true) of " + kinds[i], with(three(kinds[i])).speed(true), nines[i][0]);
      due("speed(false) of " + kinds[i], with(three(kinds[i])).speed(false), nines[i][1]);
      due("greatest of " + kinds[i] + ": MARK's powers themselves are reached", with(three(kinds[i])).greatest(), 2 + i);
    }
    sentence("II: RATIO of a STAGE without FUEL is 1 by 1");
    due("speed(true)", loaded(three("gas"), 0).speed(true), 1);
    due("speed(false)", loaded(three("gas"), 0).speed(false), 1);

    sentence("II, 12: It REACHES a power, if SPEED is no less than MARK to it: as much, next to it");
    only("reaches(2)", () -> with(three("solid")), x -> x.reaches(2), 1);
    only("reaches(3)", () -> with(three("solid")), x -> x.reaches(3), 0);
    sentence("II, 12: SPEED is exact: a little above MARK's power is no less, a little below is");
    // of 68 by 50, to 3, more by 1.6 of 10 to 11
    StageRatios x = loaded(head(21, 68, 50, 3, 0) + stage("a gas", 28, 59, 15, 1, 1, 1, 0, 0) + stage("b gas", 29, 25, 11, 1, 1, 1, 0, 0), 14, 9);
    due("reaches(3)", x.reaches(3), 1);
    due("greatest()", x.greatest(), 3);
    // of 91 by 53 more by 8.8 of 10 to 13
    x = loaded(head(2, 91, 53, 3, 0) + stage("a gas", 36, 12, 11, 1, 1, 1, 0, 0) + stage("b solid", 10, 4, 15, 1, 1, 1, 0, 0)
        + stage("c solid", 43, 75, 4, 1, 1, 1, 0, 0), 3, 11, 3);
    due("reaches(1)", x.reaches(1), 1);
    due("greatest()", x.greatest(), 1);
    // of 83 by 76, to 4, less by 1.1 of 10 to 11
    x = loaded(head(38, 83, 76, 4, 0) + stage("a gas", 50, 0, 16, 1, 1, 1, 0, 0) + stage("b solid", 41, 43, 10, 1, 1, 1, 0, 0)
        + stage("c gas", 38, 56, 6, 1, 1, 1, 0, 0), 13, 6, 1);
    due("reaches(4)", x.reaches(4), 0);
    due("greatest()", x.greatest(), 3);
    // of 85 by 81, to 28, less by 1.4 of 10 to 12
    x = loaded(head(1, 85, 81, 4, 0) + stage("a solid", 44, 90, 15, 1, 1, 1, 0, 0) + stage("b oil", 32, 39, 6, 1, 1, 1, 0, 0)
        + stage("c oil", 21, 9, 13, 1, 1, 1, 0, 0), 3, 0, 13);
    due("reaches(28)", x.reaches(28), 0);
    due("greatest()", x.greatest(), 27);
    // of 97 by 66, squared, less by 3.8 of 10 to 9, and of 89 by 69, squared, by 3 of 10 to 10
    x = with(head(5, 97, 66, 2, 0) + stage("a oil", 22, 0, 8, 1, 1, 1, 0, 0) + stage("b solid", 24, 0, 6, 1, 1, 1, 0, 0));
    due("reaches(2)", x.reaches(2), 0);
    x = with(head(37, 89, 69, 2, 0) + stage("a oil", 33, 0, 11, 1, 1, 1, 0, 0) + stage("b oil", 31, 0, 5, 1, 1, 1, 0, 0));
    due("reaches(2)", x.reaches(2), 0);

    sentence("12: a power (0 .. 40)");
    only("reaches(0)", Check::busy, y -> y.reaches(0), 1);
    due("reaches(0) without FUEL", loaded(three("gas"), 0).reaches(0), 1);
    due("reaches(1) without FUEL", loaded(three("gas"), 0).reaches(1), 0);
    only("reaches(40)", Check::busy, y -> y.reaches(40), 0);
    sentence("12: NONE: 1 (no ROCKET); 2");
    for (int k : new int[] {MIN, -1, 41, MAX}) {
      refused("reaches(" + k + ")", Check::busy, y -> y.reaches(k), -1, 2);
      refused("reaches(" + k + ") without a ROCKET", StageRatios::new, y -> y.reaches(k), -1, 1);
    }
    refused("reaches(0) without a ROCKET", StageRatios::new, y -> y.reaches(0), -1, 1);

    sentence("13: The greatest power (0 .. 40): none, the next to last, the last, what is beyond");
    only("greatest() without FUEL", () -> loaded(three("gas"), 0), y -> y.greatest(), 0);
    // 99 by 98 to 39.53, to 40.35, to 43.96, to 432
    String fine = head(1, 99, 98, 1, 0) + stage("a solid", 8, 0, 5, 1, 1, 1, 0, 0);
    only("11 by 9, squared", () -> loaded(fine, 2), y -> y.greatest(), 39);
    due("reaches(39)", loaded(fine, 2).reaches(39), 1);
    due("reaches(40)", loaded(fine, 2).reaches(40), 0);
    String finer = fine.replace("payload 1", "payload 10").replace("dry 8", "dry 12");
    only("27 by 22, squared", () -> with(finer), y -> y.greatest(), 40);
    due("reaches(40)", with(finer).reaches(40), 1);
    only("9 by 1, to 4", () -> with(fine.replace("solid dry 8", "gas dry 1").replace("most 5", "most 16")), y -> y.greatest(), 40);
    refused("greatest() without a ROCKET", StageRatios::new, y -> y.greatest(), -1, 1);
  }

  private static void lowestTerms() {
    sentence("14: in lowest terms: within a STAGE, between two");
    // 6 by 4
    StageRatios x = with(head(2, 3, 2, 1, 0) + stage("a oil", 2, 0, 2, 1, 1, 1, 0, 0));
    due("speed(true)", x.speed(true), 27);
    due("speed(false)", x.speed(false), 8);
    // 6 by 5 and 4 by 3, both cubed: 8 by 5
    x = with(head(2, 3, 2, 1, 0) + stage("a oil", 1, 0, 1, 1, 1, 1, 0, 0) + stage("b oil", 1, 0, 1, 1, 1, 1, 0, 0));
    due("speed(true)", x.speed(true), 512);
    due("speed(false)", x.speed(false), 125);
    // 6 by 5, squared, and 4 by 3, to 4: 3 to the 2 goes, not to the 4
    x = with(head(2, 3, 2, 1, 0) + stage("a solid", 1, 0, 1, 1, 1, 1, 0, 0) + stage("b gas", 1, 0, 1, 1, 1, 1, 0, 0));
    due("speed(true)", x.speed(true), 4 * 256);
    due("speed(false)", x.speed(false), 25 * 9);
    sentence("14: modulo 1,000,003: next to it on either side");
    // 100 by 91 and 101 by 91, cubed
    String text = head(40, 3, 2, 1, 0) + stage("a oil", 50, 1, 10, 1, 1, 1, 0, 0);
    only("speed(true)", () -> loaded(text, 9), y -> y.speed(true), 1000000);
    only("speed(false)", () -> loaded(text, 9), y -> y.speed(false), 753571);
    only("speed(true)", () -> loaded(text, 10), y -> y.speed(true), 1030301 - 1000003);
    // 103 by 101, cubed
    String both = head(40, 3, 2, 1, 0) + stage("a oil", 50, 0, 2, 1, 1, 1, 0, 0) + stage("b oil", 11, 0, 1, 1, 1, 1, 0, 0);
    due("speed(true)", loaded(both, 2, 0).speed(true), 1092727 - 1000003);
    due("speed(false)", loaded(both, 2, 0).speed(false), 1030301 - 1000003);
    refused("speed(true) without a ROCKET", StageRatios::new, y -> y.speed(true), -1, 1);
    refused("speed(false) without a ROCKET", StageRatios::new, y -> y.speed(false), -1, 1);
  }

  private static void richer() {
    sentence("16: above (1), below (-1) or like (0)");
    String like = head(5, 3, 2, 1, 0) + stage("a gas", 1, 0, 1, 1, 9, 1, 0, 0) + stage("b gas", 4, 4, 4, 1, 9, 1, 0, 0);
    // 13 by 12 either way: 5 + 6 + 1 + 1, and 5 + 7 + 1 by 5 + 7
    only("richer(0, 1) like", () -> loaded(like, 0, 0), x -> x.richer(0, 1), 0);
    only("richer(1, 0) like", () -> loaded(like, 0, 0), x -> x.richer(1, 0), 0);
    // less by 3.3 of 10 to 11, more by 6 of 10 to 10
    String below = head(5, 3, 2, 1, 0) + stage("a gas", 30, 28, 16, 1, 9, 1, 0, 0) + stage("b oil", 8, 56, 15, 1, 9, 1, 0, 0)
        + stage("c oil", 20, 67, 13, 1, 9, 1, 0, 0);
    only("richer(1, 2) a little below", () -> loaded(below, 6, 11, 4), x -> x.richer(1, 2), -1);
    only("richer(2, 1) a little above", () -> loaded(below, 6, 11, 4), x -> x.richer(2, 1), 1);
    String above = head(9, 3, 2, 1, 0) + stage("a solid", 30, 75, 15, 1, 9, 1, 0, 0) + stage("b oil", 6, 19, 6, 1, 9, 1, 0, 0)
        + stage("c oil", 11, 67, 15, 1, 9, 1, 0, 0);
    only("richer(1, 2) a little above", () -> loaded(above, 12, 3, 2), x -> x.richer(1, 2), 1);
    only("richer(2, 1) a little below", () -> loaded(above, 12, 3, 2), x -> x.richer(2, 1), -1);

    only("richer(0, 2) far below", () -> loaded(below, 0, 0, 0), x -> x.richer(0, 2), -1);
    only("richer(2, 0) far above", () -> loaded(below, 0, 0, 0), x -> x.richer(2, 0), 1);

    sentence("16: -2: 5 (either has MOST): this one, that one, both; one less than MOST is not");
    refused("this one", () -> loaded(below, 16, 14, 12), x -> x.richer(0, 1), -2, 5);
    refused("that one", () -> loaded(below, 16, 14, 12), x -> x.richer(1, 0), -2, 5);
    refused("both", () -> with(below), x -> x.richer(1, 2), -2, 5);
    StageRatios x = loaded(below, 16, 14, 12);
    due("both one less", x.richer(1, 2) == -2 ? 1 : 0, 0);
    due("trouble", x.trouble(), 0);
    sentence("16: -2: 1 (no two such STAGES, unlike), ahead of 5");
    int[][] none = {{0, 0}, {1, 1}, {2, 2}, {-1, 0}, {0, -1}, {3, 0}, {0, 3}, {MIN, MAX}, {MAX, 1}, {-1, -1}};
    for (int[] n : none) {
      refused("richer(" + n[0] + ", " + n[1] + ")", () -> with(below), y -> y.richer(n[0], n[1]), -2, 1);
      refused("richer(" + n[0] + ", " + n[1] + ")", () -> loaded(below, 0, 0, 0), y -> y.richer(n[0], n[1]), -2, 1);
    }
    refused("richer(0, 2) of two", Check::busy, y -> y.richer(0, 2), -2, 1);
    refused("richer(0, 1) without a ROCKET", StageRatios::new, y -> y.richer(0, 1), -2, 1);
  }

  private static void asItIs() {
    sentence("8 to 16, 24, 28 to 33, 40: the division as it is: right behind an ACT, each call alone");
    String text = head(10, 4, 3, 1, 1) + stage("a solid", 5, 0, 5, 1, 79, 5, 400, 0);
    Ask[] calls = {x -> x.part(0, 3), x -> x.part(0, 1), x -> x.margin(0, 0), x -> x.spare(0), x -> x.mass(), x -> x.reaches(2), x -> x.greatest(),
        x -> x.speed(true), x -> x.speed(false), x -> x.holds(), x -> x.beaten(), x -> x.flight(0), x -> x.tick(1, 1), x -> x.risk(0, 1),
        x -> x.riskiest(), x -> x.flown(true), x -> x.stage(0, 9), x -> weakOf(x, 0)};
    int[] full = {0, 20, 395, -2, 20, 1, 2, 16, 9, 0, 0, 1, 20, -2, 1, 8, 5, 0};
    int[] four = {1, 19, 415, 0, 19, 0, 1, 361, 225, 1, 0, 1, 19, -2, 1, 361, 5, THROWN};
    int[] none = {1, 15, 526, 0, 15, 0, 0, 1, 1, 1, 0, 0, -1, 0, -2, 1, 5, THROWN};
    for (int i = 0; i < calls.length; i++) {
      StageRatios x = with(text);
      due("call " + i + " with all", calls[i].of(x), full[i]);
      x.load(0, 4);
      due("call " + i + " with 4", calls[i].of(x), four[i]);
      x.load(0, 0);
      due("call " + i + " with none", calls[i].of(x), none[i]);
      x.undo();
      due("call " + i + " undone", calls[i].of(x), four[i]);
      x.load(0, 5);
      due("call " + i + " with all again", calls[i].of(x), full[i]);
    }
  }

  public static void main(String[] args) {
    asItIs();
    shells();
    weights();
    margins();
    speeds();
    lowestTerms();
    richer();
    end();
  }
}
