// The boundary cases of Terms III (THE FLIGHT) and of promises 28 to 33.
public final class FlightBoundaryTests extends Check {
  /** ENGINES, FLOW and FUEL as told; TANK 0, PAYLOAD 1 and DRY 1, so 2 fly without FUEL. */
  private static String burn(String kind, int engines, int flow, int fuel, int pull) {
    return head(1, 3, 2, 1, pull) + stage("a " + kind, 1, 0, fuel, engines, 1, flow, 0, 0);
  }

  /** Each TICK's row: what flies behind it, engines that run. */
  private static void burns(String text, int dropped, int stopped, int... behindAndRun) {
    StageRatios x = with(text);
    due("TICKS of " + text, x.flight(0), behindAndRun.length / 2);
    for (int i = 0; 2 * i + 1 < behindAndRun.length; i++) {
      due("behind TICK " + (i + 1) + " of " + text, x.tick(i + 1, 2), behindAndRun[2 * i]);
      due("engines in TICK " + (i + 1) + " of " + text, x.tick(i + 1, 3), behindAndRun[2 * i + 1]);
    }
    due("DROPPED of " + text, x.flight(3), dropped);
    due("stopped of " + text, x.flight(4), stopped);
  }

  private static void ticks() {
    sentence("III: it burns: FLOW of all that run, FUEL that is left at most: as much, one less, one more");
    burns(burn("oil", 2, 3, 6, 0), 0, 0, 2, 2);
    burns(burn("oil", 2, 3, 5, 0), 0, 0, 2, 2);
    burns(burn("oil", 2, 3, 7, 0), 0, 0, 3, 2, 2, 2);
    sentence("III: the most TICKS of a burn, and the greatest FLOW there is");
    StageRatios x = with(burn("gas", 1, 1, 16, 0));
    due("TICKS", x.flight(0), 16);
    due("ahead of the last one", x.tick(16, 1), 3);
    due("behind the last one", x.tick(16, 2), 2);
    burns(burn("gas", 9, 9, 16, 0), 0, 0, 2, 9);
    x = with(head(1, 3, 2, 1, 99) + stage("a oil", 1, 0, 16, 1, 1, 1, 0, 0) + stage("b oil", 1, 0, 16, 1, 1, 1, 0, 0) + stage("c oil", 1, 0, 16, 1, 1, 1, 0, 0));
    due("TICKS of three", x.flight(0), 48);
    due("the last one's STAGE", x.tick(48, 0), 2);
    sentence("III: each TICK but the last may be followed by the one in which the last ones fail");
    burns(burn("oil", 1, 1, 4, 0) + fail("a", 4, 1), 1, 1, 5, 1, 4, 1, 3, 1, 3, 0);

    sentence("III: first engines that fail in it stop, then it burns");
    burns(burn("oil", 3, 1, 6, 0) + fail("a", 1, 1), 0, 1, 6, 2, 4, 2, 2, 2);
    burns(burn("oil", 3, 1, 6, 0) + fail("a", 2, 1), 0, 1, 5, 3, 3, 2, 2, 2);
    sentence("III: as many as still run at most");
    burns(burn("oil", 2, 1, 6, 0) + fail("a", 2, 9), 4, 2, 6, 2, 6, 0);
    burns(burn("oil", 3, 1, 6, 0) + fail("a", 1, 1) + fail("a", 2, 9), 4, 3, 6, 2, 6, 0);
    burns(burn("oil", 9, 1, 16, 0) + fail("a", 1, 8), 0, 8, 17, 1, 16, 1, 15, 1, 14, 1, 13, 1, 12, 1, 11, 1, 10, 1, 9, 1, 8, 1, 7, 1, 6, 1, 5, 1, 4, 1, 3, 1, 2, 1);
    burns(burn("oil", 9, 1, 16, 0) + fail("a", 1, 9), 16, 9, 18, 0);
    sentence("I, III: the sixth of six fails counts, and a seventh isn't there from a ROCKET ahead");
    String pair = head(1, 3, 2, 1, 0) + stage("a solid", 1, 0, 1, 1, 1, 1, 0, 0) + stage("b oil", 1, 0, 6, 4, 1, 1, 0, 0);
    String five = fail("a", 1, 9) + fail("a", 2, 9) + fail("a", 3, 9) + fail("b", 1, 1) + fail("a", 4, 9);
    burns(pair + five + fail("b", 2, 2), 0, 3, 9, 1, 5, 3, 4, 1, 3, 1, 2, 1);
    x = with(pair + five + fail("b", 2, 2));
    lay(x, pair + five + fail("b", 2, 2));
    lay(x, pair);
    due("stopped without fails", x.flight(4), 0);
    due("TICKS", x.flight(0), 3);
    lay(x, pair + fail("b", 1, 1));
    due("stopped by one", x.flight(4), 1);

    sentence("III: solid ones don't stop");
    burns(burn("solid", 2, 1, 6, 0) + fail("a", 1, 9) + fail("a", 2, 1), 0, 0, 6, 2, 4, 2, 2, 2);
    sentence("III: oil and gas do");
    burns(burn("gas", 2, 1, 6, 0) + fail("a", 1, 1), 0, 1, 7, 1, 6, 1, 5, 1, 4, 1, 3, 1, 2, 1);

    sentence("III: a TICK in which the last ones fail counts: nothing is burnt, its PUSH is 0: the first, a later one");
    burns(burn("oil", 1, 1, 3, 0) + fail("a", 1, 1), 3, 1, 5, 0);
    burns(burn("oil", 1, 1, 3, 0) + fail("a", 3, 1), 1, 1, 4, 1, 3, 1, 3, 0);
    x = with(burn("oil", 1, 1, 3, 0) + fail("a", 3, 1));
    due("ahead of it", x.tick(3, 1), 3);
    due("its PUSH", x.tick(3, 4), 0);
    due("the least PUSH", x.flight(1), 0);
    due("its TICK", x.flight(2), 3);
    sentence("III: It burns, as long as it has FUEL: what would fail behind that doesn't");
    burns(burn("oil", 1, 1, 3, 0) + fail("a", 4, 1), 0, 0, 4, 1, 3, 1, 2, 1);
    burns(burn("oil", 1, 1, 3, 0) + fail("a", 99, 9), 0, 0, 4, 1, 3, 1, 2, 1);
    sentence("III: and an engine runs: what would fail behind that doesn't");
    burns(burn("oil", 1, 1, 3, 0) + fail("a", 1, 1) + fail("a", 2, 9), 3, 1, 5, 0);

    sentence("III: TICKS of its burn (1, 2, ..): of each STAGE from 1 on");
    String two = head(1, 3, 2, 1, 0) + stage("a oil", 1, 0, 2, 1, 1, 1, 0, 0) + stage("b oil", 1, 0, 2, 2, 1, 1, 0, 0);
    burns(two, 0, 0, 6, 1, 5, 1, 2, 2);
    burns(two + fail("b", 1, 1), 0, 1, 6, 1, 5, 1, 3, 1, 2, 1);
    burns(two + fail("b", 3, 1), 0, 0, 6, 1, 5, 1, 2, 2);
    sentence("III: what is left of FUEL and its SHELL are DROPPED");
    burns(two + fail("a", 1, 1), 2, 1, 7, 0, 2, 2);
    burns(two + fail("a", 2, 1) + fail("b", 1, 2), 3, 3, 6, 1, 6, 0, 4, 0);
    x = with(two + fail("a", 1, 1));
    due("what flies ahead of the next one", x.tick(2, 1), 4);
    sentence("III: (Without FUEL it is DROPPED at once.): no TICK, none stops");
    x = loaded(two + fail("a", 1, 1), 0, 2);
    due("TICKS", x.flight(0), 1);
    due("its STAGE", x.tick(1, 0), 1);
    due("stopped", x.flight(4), 0);
    x = loaded(two + fail("b", 1, 1), 2, 0);
    due("TICKS", x.flight(0), 2);
    due("stopped", x.flight(4), 0);
    x = loaded(two + fail("a", 1, 1) + fail("b", 1, 1), 0, 0);
    due("TICKS", x.flight(0), 0);
    due("DROPPED", x.flight(3), 0);
    due("stopped", x.flight(4), 0);
  }

  private static void pushes() {
    sentence("III: PUSH of a TICK: the lower WHOLE of 100 times THRUST of all that run in it by what flies ahead of it");
    String text = burn("oil", 2, 1, 5, 0);
    int[] one = {28, 40, 66};
    int[] less = {14, 33, 50, 100};
    StageRatios x = with(text);
    for (int t = 1; t <= 3; t++) {
      due("PUSH of TICK " + t, x.tick(t, 4), one[t - 1]);
    }
    x = with(text + fail("a", 1, 1));
    due("one alone of 7", x.tick(1, 4), less[0]);
    due("one alone of 6", x.tick(2, 4), 16);
    due("one alone of 3", x.tick(5, 4), less[1]);
    x = with(burn("oil", 9, 1, 16, 0).replace("thrust 1", "thrust 999"));
    due("the greatest THRUST", x.tick(1, 4), 100 * 999 * 9 / 18);
    due("of less", x.tick(2, 4), 100 * 999 * 9 / 9);
    x = with(head(40, 3, 2, 1, 0) + stage("a oil", 50, 90, 16, 1, 1, 1, 0, 0));
    due("less than one hundredth", x.tick(1, 4), 0);
    due("of 106", x.tick(16, 4), 0);
    sentence("28: 1 the least PUSH of them, 2 the first TICK of it (from 1 on in all)");
    due("like ones", x.flight(1), 0);
    due("the first of like ones", x.flight(2), 1);
    x = with(text);
    due("the least", x.flight(1), 28);
    due("its TICK", x.flight(2), 1);
    x = with(head(1, 3, 2, 1, 0) + stage("a oil", 1, 0, 2, 1, 100, 1, 0, 0) + stage("b oil", 1, 0, 2, 1, 1, 1, 0, 0));
    due("the least, of another STAGE", x.flight(1), 25);
    due("its TICK", x.flight(2), 3);
  }

  private static void flown() {
    sentence("III, 33: FLOWN: nothing for a TICK, if PULL is 0");
    StageRatios x = with(burn("solid", 1, 1, 1, 0));
    due("flown(true)", x.flown(true), 9);
    due("flown(false)", x.flown(false), 4);
    sentence("III, 33: for each TICK PULL by PULL and 1: the least, the greatest, one TICK and more");
    x = with(burn("solid", 1, 1, 1, 1));
    due("flown(true)", x.flown(true), 9);
    due("flown(false)", x.flown(false), 8);
    x = with(burn("solid", 1, 1, 1, 99));
    due("flown(true)", x.flown(true), 9 * 99);
    due("flown(false)", x.flown(false), 4 * 100);
    x = with(burn("solid", 1, 1, 3, 1));
    due("flown(true)", x.flown(true), 25);
    due("flown(false)", x.flown(false), 4 * 8);
    sentence("III, 33: for a TICK that burns nothing, too");
    x = with(burn("oil", 1, 1, 3, 1) + fail("a", 1, 1));
    due("flown(true)", x.flown(true), 1);
    due("flown(false)", x.flown(false), 2);
    sentence("III, 33: each to the STAGE's GRADE");
    x = with(burn("oil", 1, 1, 1, 0));
    due("oil", x.flown(true), 27);
    x = with(burn("gas", 1, 1, 1, 0));
    due("gas", x.flown(true), 81);
    sentence("III, 33: FUEL that is DROPPED counts for nothing");
    // 5 by 4, then 2 are left
    x = with(burn("oil", 1, 1, 3, 0) + fail("a", 2, 1));
    due("flown(true)", x.flown(true), 125);
    due("flown(false)", x.flown(false), 64);
    sentence("33: without TICKS it is 1 by 1, whatever PULL");
    only("flown(true)", () -> loaded(burn("oil", 1, 1, 3, 99), 0), y -> y.flown(true), 1);
    only("flown(false)", () -> loaded(burn("oil", 1, 1, 3, 99), 0), y -> y.flown(false), 1);
    sentence("33: in lowest terms, PULL's too");
    // 10 by 9, squared, by 9 by 10
    String ten = head(8, 3, 2, 1, 9) + stage("a solid", 1, 0, 1, 1, 1, 1, 0, 0);
    only("flown(true)", () -> with(ten), y -> y.flown(true), 10);
    only("flown(false)", () -> with(ten), y -> y.flown(false), 9);
    sentence("III, 33: of three STAGES, with the most TICKS there are");
    String three = head(1, 3, 2, 1, 2) + stage("a oil", 1, 0, 2, 1, 1, 1, 0, 0) + stage("b oil", 1, 0, 2, 1, 1, 1, 0, 0) + stage("c oil", 1, 0, 2, 1, 1, 1, 0, 0);
    // 4 by 2, 7 by 5 and 10 by 8, cubed, and 2 by 3, to 6
    only("flown(true)", () -> with(three), y -> y.flown(true), 2744);
    only("flown(false)", () -> with(three), y -> y.flown(false), 729);
    only("flight(5)", () -> with(three), y -> y.flight(5), 3);
    String most = three.replace("most 2", "most 16").replace("pull 2", "pull 99");
    only("flown(true)", () -> with(most), y -> y.flown(true), 47214);
    only("flown(false)", () -> with(most), y -> y.flown(false), 148589);
    only("flight(5)", () -> with(most), y -> y.flight(5), 22);
    sentence("33: modulo 1,000,003, next to it on either side");
    // 100 by 91 and 101 by 91, cubed
    String cubed = head(40, 3, 2, 1, 0) + stage("a oil", 50, 1, 10, 9, 1, 9, 0, 0);
    due("flown(true)", loaded(cubed, 9).flown(true), 1000000);
    due("flown(true)", loaded(cubed, 10).flown(true), 30298);
    // 5 by 2, squared, and 99 by 100, cubed
    x = with(burn("solid", 1, 1, 3, 99));
    due("flown(true)", x.flown(true), 970299);
    due("flown(false)", x.flown(false), 4 * 40000);
    refused("flown(true) without a ROCKET", StageRatios::new, y -> y.flown(true), -1, 1);
    refused("flown(false) without a ROCKET", StageRatios::new, y -> y.flown(false), -1, 1);

    sentence("28: 5 the greatest power (0 .. 40) of which FLOWN is no less than MARK's; -2 not 0's");
    // 18 by 16, squared, and 8 by 9, squared: 1
    String like = head(15, 3, 2, 1, 8) + stage("a solid", 1, 0, 2, 1, 1, 1, 0, 0);
    only("as much as 0's", () -> with(like), y -> y.flight(5), 0);
    due("flown(true)", with(like).flown(true), 1);
    due("flown(false)", with(like).flown(false), 1);
    only("less than 0's", () -> with(like.replace("pull 8", "pull 7")), y -> y.flight(5), -2);
    only("more than 0's", () -> with(like.replace("pull 8", "pull 9")), y -> y.flight(5), 0);
    // 4 by 2, squared, and 1 by 2: 2 by 1
    String twice = burn("solid", 1, 2, 2, 1).replace("3 by 2", "2 by 1");
    only("as much as 1's", () -> with(twice), y -> y.flight(5), 1);
    only("less than 1's", () -> with(twice.replace("2 by 1", "99 by 49")), y -> y.flight(5), 0);
    only("more than 1's", () -> with(twice.replace("2 by 1", "97 by 49")), y -> y.flight(5), 1);
    // 10 by 9, squared, by 9 by 10
    only("as much as 1's, with PULL 9", () -> with(ten.replace("3 by 2", "10 by 9")), y -> y.flight(5), 1);
    only("less than 1's, with PULL 9", () -> with(ten.replace("3 by 2", "9 by 8")), y -> y.flight(5), 0);
    String fine = burn("solid", 1, 9, 2, 0).replace("3 by 2", "99 by 98");
    only("11 by 9, squared: 39", () -> with(fine.replace("payload 1", "payload 8")), y -> y.flight(5), 39);
    only("27 by 22, squared: 40", () -> with(head(10, 99, 98, 1, 0) + stage("a solid", 12, 0, 5, 1, 1, 9, 0, 0)), y -> y.flight(5), 40);
    only("40 is the greatest", () -> with(fine), y -> y.flight(5), 40);
    sentence("32: 1 if FLOWN REACHES POWER: as much, one more, -2 not 0's");
    only("as much", () -> with(twice), y -> y.arrives(), 1);
    only("one more", () -> with(twice.replace("power 1", "power 2")), y -> y.arrives(), 0);
    only("less than 1", () -> with(burn("solid", 1, 1, 2, 1)), y -> y.arrives(), 0);
    only("the greatest POWER", () -> with(fine.replace("power 1", "power 12")), y -> y.arrives(), 1);
    only("without FUEL", () -> loaded(twice, 0), y -> y.arrives(), 0);
    refused("arrives() without a ROCKET", StageRatios::new, y -> y.arrives(), -1, 1);
    sentence("28, 32: FLOWN is exact: a little above MARK's power is no less, a little below is");
    // of 57 by 53, to 4, more by 2.1 of 10 to 13
    String above = head(35, 57, 53, 4, 80) + stage("a gas", 47, 12, 2, 1, 1, 3, 0, 0) + stage("b solid", 41, 30, 12, 1, 1, 6, 0, 0);
    only("flight(5)", () -> with(above), y -> y.flight(5), 4);
    only("arrives()", () -> with(above), y -> y.arrives(), 1);
    // of 70 by 55, to 6, less by 1.7 of 10 to 12
    String below = head(15, 70, 55, 6, 96) + stage("a oil", 37, 13, 14, 1, 1, 7, 0, 0) + stage("b gas", 14, 81, 16, 1, 1, 4, 0, 0);
    only("flight(5)", () -> with(below), y -> y.flight(5), 5);
    only("arrives()", () -> with(below), y -> y.arrives(), 0);
  }

  private static void asked() {
    sentence("28: -2 none: without TICKS");
    int[] none = {0, -2, -2, 0, 0, 0};
    for (int w = 0; w < 6; w++) {
      int what = w;
      only("flight(" + what + ")", () -> loaded(TWO, 0, 0), x -> x.flight(what), none[what]);
    }
    sentence("28: flight(what): 0 .. 5; NONE: 1 (what, too)");
    // low: 20 > 18 > 17; top: 12 > 9, two of three stop, > 8
    int[] busy = {4, 44, 4, 0, 2, 3};
    for (int w = 0; w < 6; w++) {
      int what = w;
      only("flight(" + what + ")", Check::busy, x -> x.flight(what), busy[what]);
    }
    for (int what : new int[] {MIN, -1, 6, MAX}) {
      refused("flight(" + what + ")", Check::busy, x -> x.flight(what), -1, 1);
    }
    for (int w = 0; w < 6; w++) {
      int what = w;
      refused("flight(" + what + ") without a ROCKET", StageRatios::new, x -> x.flight(what), -1, 1);
    }

    sentence("29: tick(t, what): of all, from 1 on, what 0 .. 4; NONE: 1 (no such TICK, what)");
    int[][] rows = {{0, 20, 18, 2, 200}, {0, 18, 17, 2, 222}, {1, 12, 9, 3, 100}, {1, 9, 8, 1, 44}};
    for (int i = 0; i < 4; i++) {
      int t = i + 1;
      for (int w = 0; w < 5; w++) {
        int what = w;
        only("tick(" + t + ", " + what + ")", Check::busy, x -> x.tick(t, what), rows[t - 1][what]);
      }
    }
    for (int t : new int[] {MIN, -1, 0, 5, 99, MAX}) {
      refused("tick(" + t + ", 0)", Check::busy, x -> x.tick(t, 0), -1, 1);
    }
    for (int what : new int[] {MIN, -1, 5, MAX}) {
      refused("tick(1, " + what + ")", Check::busy, x -> x.tick(1, what), -1, 1);
    }
    refused("tick(1, 0) without TICKS", () -> loaded(TWO, 0, 0), x -> x.tick(1, 0), -1, 1);
    refused("tick(1, 0) without a ROCKET", StageRatios::new, x -> x.tick(1, 0), -1, 1);
  }

  private static void risks() {
    sentence("30: risk(s, tick): in that TICK of its burn (1 .. 99): the first, the last, one behind it, 99");
    // 2 and FUEL by what is left, cubed: 1, 6 by 5, 6 by 4, 6 by 3, 6 by 2
    String four = burn("oil", 1, 1, 4, 0);
    int[] risk = {0, 1, 3, 5, 8};
    for (int i = 0; i < 5; i++) {
      int t = i + 1;
      only("risk(0, " + t + ")", () -> with(four), x -> x.risk(0, t), risk[i]);
    }
    only("risk(0, 99)", () -> with(four), x -> x.risk(0, 99), 8);
    sentence("30: -2 not 0's");
    only("risk(0, 1)", () -> with(burn("oil", 1, 1, 4, 1)), x -> x.risk(0, 1), -2);
    sentence("30: 40 at most");
    only("risk(0, 99)", () -> with(burn("gas", 1, 9, 16, 0).replace("3 by 2", "99 by 98")), x -> x.risk(0, 99), 40);
    sentence("30: one engine more, besides those told: in a TICK told, in another one");
    String two = burn("oil", 2, 1, 4, 0);
    only("one of two", () -> with(two), x -> x.risk(0, 1), 8);
    only("both in TICK 1", () -> with(two + fail("a", 1, 1)), x -> x.risk(0, 1), 0);
    only("one told for 1, one more in 2", () -> with(two + fail("a", 1, 1)), x -> x.risk(0, 2), 1);
    only("one more in 1, the other in 2 as told", () -> with(two + fail("a", 2, 1)), x -> x.risk(0, 1), 1);
    only("as many as still run at most", () -> with(two + fail("a", 2, 2)), x -> x.risk(0, 2), 3);
    only("as many as still run at most, in 1", () -> with(two + fail("a", 1, 9)), x -> x.risk(0, 1), 0);
    sentence("30: of a solid STAGE none stops; of one without FUEL neither");
    only("solid", () -> with(burn("solid", 1, 1, 4, 0)), x -> x.risk(0, 1), 5);
    only("without FUEL", () -> loaded(four, 0), x -> x.risk(0, 1), 0);
    sentence("30: NONE: 1 (no such STAGE); 2");
    for (int t : new int[] {MIN, -1, 0, 100, MAX}) {
      refused("risk(0, " + t + ")", Check::busy, x -> x.risk(0, t), -1, 2);
      refused("risk(2, " + t + ")", Check::busy, x -> x.risk(2, t), -1, 1);
    }
    for (int s : new int[] {MIN, -1, 2, 3, MAX}) {
      refused("risk(" + s + ", 1)", Check::busy, x -> x.risk(s, 1), -1, 1);
    }
    only("risk(1, 1)", Check::busy, x -> x.risk(1, 1), 1);
    refused("risk(0, 1) without a ROCKET", StageRatios::new, x -> x.risk(0, 1), -1, 1);
    refused("risk(0, 0) without a ROCKET", StageRatios::new, x -> x.risk(0, 0), -1, 1);

    sentence("31: The TICK of THE FLIGHT (from 1 on in all) for which risk() is least; of several the first");
    only("the first of one burn", () -> with(four), x -> x.riskiest(), 1);
    only("all like", () -> with(burn("solid", 1, 1, 4, 0)), x -> x.riskiest(), 1);
    only("all -2", () -> with(burn("solid", 1, 1, 4, 1).replace("payload 1", "payload 40")), x -> x.riskiest(), 1);
    String behind = head(1, 3, 2, 1, 0) + stage("a solid", 1, 0, 3, 1, 1, 1, 0, 0) + stage("b oil", 1, 0, 2, 1, 1, 1, 0, 0);
    only("the first of the second burn", () -> with(behind), x -> x.riskiest(), 4);
    only("the last of all", () -> loaded(behind, 3, 1), x -> x.riskiest(), 4);
    only("of one alone", () -> loaded(behind, 0, 1), x -> x.riskiest(), 1);
    only("-2 is less than 0", () -> with(head(1, 3, 2, 1, 1) + stage("a solid", 1, 0, 3, 1, 1, 9, 0, 0) + stage("b oil", 1, 0, 2, 1, 1, 9, 0, 0)),
        x -> x.riskiest(), 2);
    only("all 40", () -> with(burn("solid", 1, 1, 16, 0).replace("3 by 2", "99 by 98")), x -> x.riskiest(), 1);
    sentence("31: -2 without TICKS");
    only("riskiest()", () -> loaded(behind, 0, 0), x -> x.riskiest(), -2);
    refused("riskiest() without a ROCKET", StageRatios::new, x -> x.riskiest(), -1, 1);
  }

  public static void main(String[] args) {
    ticks();
    pushes();
    flown();
    asked();
    risks();
    end();
  }
}
