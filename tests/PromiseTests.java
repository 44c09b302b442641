import java.nio.ByteBuffer;
import java.nio.charset.StandardCharsets;
import java.util.Arrays;
import java.util.NoSuchElementException;

// One part for each promise of ../shared/DOC.md, with answers worked out by hand.
public final class PromiseTests {
  private static int wrong = 0;
  private static int asked = 0;
  private static String promise = "";

  private static final String HEAD = "rocket payload 10 mark 11 by 10 power 2 pull 0";
  private static final String A = "stage a solid dry 5 tank 0 most 5 engines 1 thrust 79 flow 5 least 400 out 0";
  // FUEL f: START 15 + f, RATIO (15 + f) / 15, HOLDS up to f = 4.
  private static final String ONE = HEAD + ";" + A;
  // Full: top SHELL 5, START 13, END 9; low SHELL 6, START 24, END 19.
  private static final String TWO = "rocket payload 4 mark 3 by 2 power 2 pull 9"
      + ";stage low solid dry 3 tank 50 most 5 engines 2 thrust 20 flow 1 least 150 out 1"
      + ";stage top gas dry 3 tank 25 most 4 engines 3 thrust 4 flow 1 least 60 out 1"
      + ";fail top 2 2;fail low 1 1";
  // A unit weighs the same in both, but in b it counts for more.
  private static final String PAIR = "rocket payload 10 mark 11 by 10 power 1 pull 0"
      + ";stage a solid dry 1 tank 0 most 1 engines 1 thrust 9 flow 1 least 0 out 0"
      + ";stage b gas dry 1 tank 0 most 1 engines 1 thrust 9 flow 1 least 0 out 0";

  private static void due(String call, long got, long want) {
    asked++;
    if (got != want) {
      wrong++;
      System.out.println("promise " + promise + ": " + call + " answered " + got + ", due is " + want);
    }
  }

  private static void feedText(StageRatios x, String text) {
    byte[] b = text.getBytes(StandardCharsets.ISO_8859_1);
    ByteBuffer all = ByteBuffer.wrap(Arrays.copyOf(b, (b.length + 19) / 20 * 20));
    while (all.hasRemaining()) {
      x.feed(all.getInt(), all.getInt(), all.getInt(), all.getInt(), all.getInt());
    }
  }

  private static int lay(StageRatios x, String text) {
    feedText(x, text);
    return x.rocket(text.length());
  }

  private static StageRatios with(String text) {
    StageRatios x = new StageRatios();
    due("rocket of " + text, lay(x, text) > 0 ? 1 : 0, 1);
    return x;
  }

  private static void faulty(String text, int number, int place) {
    StageRatios x = new StageRatios();
    due("rocket of " + text, lay(x, text), -1);
    due("trouble of " + text, x.trouble(), 4);
    due("fault of " + text, x.fault(), number);
    due("where of " + text, x.where(), place);
  }

  private static void refused(StageRatios x, String call, int got, int number) {
    due(call, got, -1);
    due("trouble after " + call, x.trouble(), number);
  }

  private static int weakOf(StageRatios x, int i) {
    try {
      return x.weak(i);
    } catch (NoSuchElementException e) {
      return -100;
    }
  }

  private static void newObject() {
    promise = "1";
    StageRatios x = new StageRatios();
    due("trouble", x.trouble(), 0);
    due("fault", x.fault(), 0);
    due("where", x.where(), -1);
    due("size(0)", x.size(0), 0);
    due("size(1)", x.size(1), 0);
    refused(x, "mass", x.mass(), 1);
    due("NONE", StageRatios.NONE, -1);
    // 1 comes first without a ROCKET, ahead of 2.
    refused(x, "reaches(41)", x.reaches(41), 1);
    refused(x, "margin(0, -1)", x.margin(0, -1), 1);
    refused(x, "bounds(0, 3, 1)", x.bounds(0, 3, 1), 1);
    refused(x, "payload(0)", x.payload(0), 1);
    refused(x, "power(13)", x.power(13), 1);
    refused(x, "risk(0, 0)", x.risk(0, 0), 1);
    refused(x, "least(-1)", x.least(-1), 1);
    refused(x, "adopt", x.adopt(), 1);
    due("weak(0)", weakOf(x, 0), -100);
  }

  private static void tape() {
    promise = "2";
    StageRatios x = new StageRatios();
    for (int i = 1; i <= 35; i++) {
      due("feed " + i, x.feed(0x20202020, 0x20202020, 0x20202020, 0x20202020, 0x20202020), 20 * i);
    }
    due("feed 36", x.feed(0, 0, 0, 0, 0), -1);
    due("feed 37", x.feed(0, 0, 0, 0, 0), -1);
    due("size(0)", x.size(0), 700);
    due("trouble", x.trouble(), 0);
    due("rocket(700)", x.rocket(700), -1);
    due("fault", x.fault(), 1);
    due("where", x.where(), 700);
    due("feed", x.feed(-1, -1, -1, -1, -1), 20);
    due("feed leaves trouble", x.trouble(), 4);
    due("where", x.where(), 700);
    due("rocket(20)", x.rocket(20), -1);
    due("where", x.where(), 0);
    // the highest byte first: 'r' is at 0, then 'o', then a byte that begins no TOKEN
    x.feed(0x726F23FF, 0, 0, 0, 0);
    x.rocket(4);
    due("fault", x.fault(), 1);
    due("where", x.where(), 0);
    x.feed(0x20FF2020, 0, 0, 0, 0);
    x.rocket(4);
    due("where", x.where(), 1);
  }

  private static void rocketCall() {
    promise = "3";
    StageRatios x = new StageRatios();
    feedText(x, ONE);
    int fed = x.size(0);
    refused(x, "rocket(-1)", x.rocket(-1), 2);
    refused(x, "rocket(fed + 1)", x.rocket(fed + 1), 2);
    due("size(0) stays", x.size(0), fed);
    due("rocket", x.rocket(ONE.length()), 1);
    due("trouble", x.trouble(), 0);
    due("size(0)", x.size(0), 0);
    x.load(0, 3);
    due("size(1)", x.size(1), 1);
    due("a faulty one", lay(x, "rocket payload 1"), -1);
    due("size(0)", x.size(0), 0);
    due("the ROCKET stays", x.mass(), 18);
    due("what can be undone stays", x.size(1), 1);
    due("a second one", lay(x, TWO), 2);
    due("nothing to undo", x.size(1), 0);
    due("undo", x.undo() ? 1 : 0, 0);
    due("mass", x.mass(), 24);
    due("back to the first", lay(x, ONE), 1);
    due("mass", x.mass(), 20);
    due("least(2)", x.least(2), 17);
    due("three", lay(x, "rocket payload 40 mark 99 by 98 power 12 pull 99"
        + ";stage a gas dry 50 tank 90 most 16 engines 9 thrust 999 flow 9 least 400 out 8"
        + ";stage b gas dry 50 tank 90 most 16 engines 9 thrust 999 flow 9 least 0 out 0"
        + ";stage c gas dry 50 tank 90 most 16 engines 9 thrust 999 flow 9 least 0 out 0"), 3);
    due("mass", x.mass(), 358);
  }

  private static void faults() {
    promise = "4";
    String end = ";" + A;
    int h = HEAD.length();
    StageRatios x = new StageRatios();
    due("fault", x.fault(), 0);
    due("a sound one", lay(x, ONE), 1);
    due("fault", x.fault(), 0);
    lay(x, "x");
    due("fault", x.fault(), 1);
    x.rocket(-5);
    due("fault after 2", x.fault(), 1);
    lay(x, ONE);
    due("fault", x.fault(), 0);
    // 1 FORM
    faulty("", 1, 0);
    faulty("   ", 1, 3);
    faulty(";", 1, 0);
    faulty("7", 1, 0);
    faulty("Rocket", 1, 0);
    faulty("rocket\tpayload", 1, 6);
    faulty("rocketpayload 1", 1, 0);
    faulty("rocket payloads 1", 1, 7);
    faulty("rocket payload", 1, 14);
    faulty("rocket payload  ", 1, 16);
    faulty("rocket payload x", 1, 15);
    faulty("rocket payload 1000", 1, 15);
    faulty("rocket payload 1;", 1, 16);
    faulty("rocket mark 2", 1, 7);
    faulty(HEAD + ";", 1, h + 1);
    faulty(HEAD + " 1", 1, h + 1);
    faulty(HEAD + end + ";;", 1, ONE.length() + 1);
    faulty(HEAD + end + " stage b", 1, ONE.length() + 1);
    faulty(HEAD + ";stage stage", 1, h + 7);
    faulty(HEAD + ";stage rocket", 1, h + 7);
    faulty(HEAD + ";stage fail", 1, h + 7);
    faulty(HEAD + ";stage abcdefgh", 1, h + 7);
    faulty(HEAD + ";stage 7", 1, h + 7);
    faulty(HEAD + ";stage a water", 1, h + 9);
    faulty(HEAD + end + ";fail", 1, ONE.length() + 5);
    faulty(HEAD + end + ";fail stage 1 1", 1, ONE.length() + 6);
    faulty(HEAD + end + ";fail a 1;", 1, ONE.length() + 9);
    faulty(HEAD + end + ";fail a 1 1 1", 1, ONE.length() + 12);
    // 2 a NAME that isn't told
    faulty(HEAD + ";fail a 1 1" + end, 2, h + 6);
    faulty(HEAD + end + ";fail b 1 1", 2, ONE.length() + 6);
    // 3 AGAIN
    faulty(HEAD + end + ";" + A, 3, ONE.length() + 7);
    faulty(HEAD + end + ";rocket", 3, ONE.length() + 1);
    faulty(HEAD + ";rocket payload 77", 3, h + 1);
    // 4 bounds
    faulty("rocket payload 0", 4, 15);
    faulty("rocket payload 41", 4, 15);
    faulty("rocket payload 40 mark 100", 4, 23);
    faulty("rocket payload 40 mark 1", 4, 23);
    faulty("rocket payload 40 mark 99 by 99", 4, 29);
    faulty("rocket payload 40 mark 99 by 0", 4, 29);
    faulty("rocket payload 40 mark 9 by 9", 4, 28);
    faulty("rocket payload 1 mark 9 by 8 power 0", 4, 35);
    faulty("rocket payload 1 mark 9 by 8 power 13", 4, 35);
    faulty("rocket payload 1 mark 9 by 8 power 1 pull 100", 4, 42);
    stageBounds(h);
    failBounds();
    // 5 MANY
    faulty(HEAD + end + ";" + A.replace(" a ", " b ") + ";" + A.replace(" a ", " c ") + ";stage a water", 5,
        ONE.length() + 2 * A.length() + 3);
    StringBuilder six = new StringBuilder(ONE);
    for (int i = 1; i <= 6; i++) {
      six.append(";fail a ").append(i).append(" 1");
    }
    due("six fails", with(six.toString()).about(6), 6);
    faulty(six + ";fail q", 5, six.length() + 1);
    // 6 LACKS
    faulty("stage", 6, 0);
    faulty("  fail", 6, 2);
    faulty(A + ";" + HEAD, 6, 0);
    faulty(HEAD, 6, h);
    faulty(HEAD + "  ", 6, h + 2);
    // sound ones
    due("blanks", lay(x, "  rocket payload10mark2by 1power1 pull 0 ;  stage solid solid dry 050 tank 90 most 16 engines 9 thrust 999 flow 9 least 400 out 8 "), 1);
    due("a NAME of seven", lay(x, ONE.replace(" a ", " payload ") + ";fail payload 99 9"), 1);
  }

  private static void stageBounds(int h) {
    String[] words = {"dry", "tank", "most", "engines", "thrust", "flow", "least", "out"};
    int[] low = {1, 0, 1, 1, 1, 1, 0, 0};
    int[] high = {50, 90, 16, 9, 999, 9, 400, 2};
    StringBuilder line = new StringBuilder(HEAD + ";stage a oil");
    for (int i = 0; i < 8; i++) {
      line.append(" ").append(words[i]).append(" ");
      if (low[i] > 0) {
        faulty(line + "" + (low[i] - 1), 4, line.length());
      }
      faulty(line + "" + (high[i] + 1), high[i] == 999 ? 1 : 4, line.length());
      due("the least " + words[i], lay(new StageRatios(), line + "" + low[i]), i == 7 ? 1 : -1);
      line.append(i == 3 ? 3 : high[i]);
    }
    due("the greatest", with(line.toString()).stage(0, 8), 2);
  }

  private static void failBounds() {
    int n = ONE.length();
    faulty(ONE + ";fail a 0", 4, n + 8);
    faulty(ONE + ";fail a 100", 4, n + 8);
    faulty(ONE + ";fail a 1 0", 4, n + 10);
    faulty(ONE + ";fail a 1 10", 4, n + 10);
    faulty(ONE + ";fail a 5 1;fail a 5 1", 4, n + 19);
    faulty(ONE + ";fail a 5 1;fail a 4 1", 4, n + 19);
    faulty(ONE + ";fail a 99 1;fail a 99 1", 4, n + 20);
    String b = ";" + A.replace(" a ", " b ");
    due("of two STAGES each rises", lay(new StageRatios(), ONE + ";fail a 5 1" + b + ";fail b 1 1;fail a 6 1;fail b 2 9"), 2);
  }

  private static void placeOfFault() {
    promise = "5";
    StageRatios x = new StageRatios();
    due("where", x.where(), -1);
    lay(x, "rocket payload 0");
    due("where", x.where(), 15);
    due("where again", x.where(), 15);
    x.fault();
    x.size(0);
    x.trouble();
    weakOf(x, 0);
    due("where", x.where(), 15);
    x.mass();
    due("where after a call that is refused by 1", x.where(), -1);
    lay(x, "rocket payload 0");
    x.rocket(1);
    due("where after 2", x.where(), -1);
    lay(x, ONE);
    due("where", x.where(), -1);
    lay(x, "fail");
    due("where", x.where(), 0);
    x.mass();
    due("where after a call that isn't refused", x.where(), -1);
  }

  private static void facts() {
    promise = "6";
    StageRatios x = with(TWO);
    int[] about = {4, 3, 2, 2, 9, 2, 2};
    for (int i = 0; i < 7; i++) {
      due("about(" + i + ")", x.about(i), about[i]);
    }
    x.payload(7);
    x.power(11);
    due("about(0)", x.about(0), 7);
    due("about(3)", x.about(3), 11);
    refused(x, "about(-1)", x.about(-1), 1);
    refused(x, "about(7)", x.about(7), 1);
    promise = "7";
    x = with(TWO);
    int[][] stages = {{2, 3, 50, 5, 2, 20, 1, 150, 1, 6}, {4, 3, 25, 4, 3, 4, 1, 60, 1, 5}};
    for (int s = 0; s < 2; s++) {
      for (int i = 0; i < 10; i++) {
        due("stage(" + s + ", " + i + ")", x.stage(s, i), stages[s][i]);
      }
    }
    x.load(0, 4);
    due("SHELL with 4", x.stage(0, 9), 5);
    x.load(0, 1);
    due("SHELL with 1: the upper WHOLE", x.stage(0, 9), 4);
    x.load(0, 0);
    due("SHELL with 0", x.stage(0, 9), 3);
    refused(x, "stage(2, 0)", x.stage(2, 0), 1);
    refused(x, "stage(-1, 0)", x.stage(-1, 0), 1);
    refused(x, "stage(0, 10)", x.stage(0, 10), 1);
    refused(x, "stage(0, -1)", x.stage(0, -1), 1);
  }

  private static void division() {
    promise = "8";
    StageRatios x = with(TWO);
    int[][] parts = {{5, 24, 19, 0, 83}, {4, 13, 9, 1, 61}};
    for (int s = 0; s < 2; s++) {
      for (int i = 0; i < 5; i++) {
        due("part(" + s + ", " + i + ")", x.part(s, i), parts[s][i]);
      }
    }
    refused(x, "part(0, 5)", x.part(0, 5), 1);
    refused(x, "part(0, -1)", x.part(0, -1), 1);
    refused(x, "part(2, 0)", x.part(2, 0), 1);
    promise = "9";
    due("margin(0, 0)", x.margin(0, 0), 166);
    due("margin(0, 1)", x.margin(0, 1), 83);
    due("margin(0, 2)", x.margin(0, 2), 0);
    due("margin(1, 0)", x.margin(1, 0), 92);
    due("margin(1, 2)", x.margin(1, 2), 30);
    refused(x, "margin(0, 3)", x.margin(0, 3), 2);
    refused(x, "margin(0, -1)", x.margin(0, -1), 2);
    refused(x, "margin(2, -1)", x.margin(2, -1), 1);
    promise = "10";
    due("spare(0)", x.spare(0), 0);
    due("spare(1)", x.spare(1), 1);
    due("all can be out", with(PAIR).spare(0), 1);
    due("none holds", with(ONE).spare(0), -2);
    refused(x, "spare(-1)", x.spare(-1), 1);
    promise = "11";
    due("mass", x.mass(), 24);
    x.load(1, 0);
    due("a STAGE without FUEL has its SHELL", x.mass(), 19);
    x.undo();
    x.payload(5);
    due("mass", x.mass(), 25);
    x.undo();
    promise = "15";
    due("holds", x.holds(), 0);
    due("weak", x.weak(0), 0);
    StageRatios y = with(ONE);
    due("holds", y.holds(), 0);
    y.load(0, 4);
    due("holds", y.holds(), 1);
  }

  private static void speeds() {
    promise = "12";
    StageRatios x = with(TWO);
    // SPEED is 1827904 by 263169, 6.94..
    due("reaches(0)", x.reaches(0), 1);
    due("reaches(4)", x.reaches(4), 1);
    due("reaches(5)", x.reaches(5), 0);
    due("reaches(40)", x.reaches(40), 0);
    refused(x, "reaches(-1)", x.reaches(-1), 2);
    refused(x, "reaches(41)", x.reaches(41), 2);
    // 20 by 15, squared, is 4 by 3, squared: like counts
    StageRatios y = with(ONE.replace("11 by 10", "4 by 3"));
    due("reaches(2)", y.reaches(2), 1);
    due("reaches(3)", y.reaches(3), 0);
    promise = "13";
    due("greatest", x.greatest(), 4);
    due("greatest", y.greatest(), 2);
    y.load(0, 0);
    due("greatest", y.greatest(), 0);
    StageRatios z = with("rocket payload 1 mark 99 by 98 power 1 pull 0;stage a gas dry 1 tank 0 most 16 engines 1 thrust 1 flow 1 least 0 out 0");
    due("40 is the greatest of all", z.greatest(), 40);
    due("farthest", z.farthest(), 40);
    promise = "14";
    due("speed(true)", x.speed(true), 827901);
    due("speed(false)", x.speed(false), 263169);
    due("speed(true)", y.speed(true), 1);
    due("speed(false)", y.speed(false), 1);
    y.load(0, 5);
    due("speed(true)", y.speed(true), 16);
    due("speed(false)", y.speed(false), 9);
    promise = "16";
    x = with(PAIR);
    due("richer(0, 1)", x.richer(0, 1), -2);
    due("trouble", x.trouble(), 5);
    x.load(0, 0);
    due("richer(0, 1)", x.richer(0, 1), -2);
    due("trouble", x.trouble(), 5);
    due("richer(1, 0)", x.richer(1, 0), -2);
    due("trouble", x.trouble(), 5);
    x.load(1, 0);
    due("richer(0, 1)", x.richer(0, 1), -1);
    due("trouble", x.trouble(), 0);
    due("richer(1, 0)", x.richer(1, 0), 1);
    due("richer(1, 1)", x.richer(1, 1), -2);
    due("trouble", x.trouble(), 1);
    due("richer(0, 2)", x.richer(0, 2), -2);
    due("trouble", x.trouble(), 1);
    due("richer(-1, 0)", x.richer(-1, 0), -2);
    due("trouble", x.trouble(), 1);
    // 10, 1 and 1: 13/12 squared either way, where the upper STAGE is 12/11; a dry of 0 can't be told, so like ones need it
    due("mass", x.mass(), 12);
    x = with("rocket payload 1 mark 2 by 1 power 1 pull 0;stage a oil dry 1 tank 90 most 5 engines 1 thrust 9 flow 1 least 0 out 0"
        + ";stage b oil dry 1 tank 0 most 3 engines 1 thrust 9 flow 1 least 0 out 0");
    // one more in a: START 3 + 2 by 3 + 1; one more in b: (4/4) (3/2)
    x.load(0, 0);
    x.load(1, 0);
    due("richer(0, 1)", x.richer(0, 1), -1);
  }

  private static void best() {
    StageRatios x = with(ONE);
    promise = "17";
    int[] least = {15, 16, 17, 18, 19, -2};
    for (int k = 0; k <= 5; k++) {
      due("least(" + k + ")", x.least(k), least[k]);
      due("trouble", x.trouble(), 0);
    }
    refused(x, "least(41)", x.least(41), 2);
    refused(x, "least(-1)", x.least(-1), 2);
    promise = "18";
    due("fuel(3, 0)", x.fuel(3, 0), 3);
    due("fuel(5, 0)", x.fuel(5, 0), -2);
    refused(x, "fuel(41, 0)", x.fuel(41, 0), 2);
    refused(x, "fuel(41, 1)", x.fuel(41, 1), 1);
    // a and b weigh and count alike: of like MASS the least FUEL of STAGE 0
    StageRatios tie = with(PAIR.replace("power 1", "power 2"));
    due("fuel(2, 0)", tie.fuel(2, 0), 0);
    due("fuel(2, 1)", tie.fuel(2, 1), 1);
    promise = "19";
    due("farthest", x.farthest(), 4);
    x.bounds(0, 1, 2);
    due("farthest", x.farthest(), 2);
    x.bounds(0, 5, 5);
    due("farthest", x.farthest(), -2);
    due("least(0)", x.least(0), -2);
    x.undo();
    x.undo();
    promise = "20";
    due("lifts", x.lifts(), 12);
    due("PAYLOAD stays", x.about(0), 10);
    due("mass", x.mass(), 20);
    x.power(12);
    due("lifts", x.lifts(), 1);
    due("trouble", x.trouble(), 0);
    x.bounds(0, 0, 0);
    due("lifts", x.lifts(), -2);
    StageRatios z = with(ONE.replace("least 400", "least 0").replace("11 by 10", "99 by 98"));
    due("lifts", z.lifts(), 40);
    promise = "21";
    x = with(PAIR);
    // BEST for 1: b alone, 13; without b: a alone, 13
    due("least(1)", x.least(1), 13);
    due("needs(0)", x.needs(0), 0);
    due("needs(1)", x.needs(1), 0);
    x.power(2);
    due("needs(1)", x.needs(1), -2);
    due("needs(0)", x.needs(0), 0);
    x.power(1);
    x.bounds(0, 1, 1);
    x.bounds(1, 1, 1);
    due("least(1)", x.least(1), 14);
    due("whatever its LOW", x.needs(1), -1);
    due("trouble", x.trouble(), 0);
    due("THE BOX stays", x.box(1, false), 1);
    x.power(9);
    due("none at all", x.needs(1), -2);
    refused(x, "needs(2)", x.needs(2), 1);
  }

  private static void front() {
    promise = "22";
    StageRatios x = with(PAIR);
    due("fronts", x.fronts(), 3);
    due("fronts", with(ONE).fronts(), 5);
    promise = "23";
    int[][] front = {{12, 0, 0, 0, -2}, {13, 3, 0, 1, -2}, {14, 5, 1, 1, -2}};
    for (int i = 0; i < 3; i++) {
      for (int what = 0; what < 5; what++) {
        due("front(" + i + ", " + what + ")", x.front(i, what), front[i][what]);
        due("trouble", x.trouble(), 0);
      }
    }
    refused(x, "front(3, 0)", x.front(3, 0), 1);
    refused(x, "front(-1, 0)", x.front(-1, 0), 1);
    refused(x, "front(0, 5)", x.front(0, 5), 1);
    refused(x, "front(0, -1)", x.front(0, -1), 1);
    promise = "24";
    due("beaten", x.beaten(), 0);
    x.load(1, 0);
    due("a alone is beaten by b alone", x.beaten(), 1);
    x.bounds(1, 0, 0);
    due("but not without b", x.beaten(), 0);
    due("fronts", x.fronts(), 2);
    x.bounds(0, 1, 1);
    x.load(0, 0);
    due("not in THE BOX, less MASS, less SPEED", x.beaten(), 0);
    StageRatios y = with(ONE);
    y.bounds(0, 5, 5);
    due("no FRONT", y.fronts(), 0);
    due("beaten", y.beaten(), 0);
    refused(y, "front(0, 0)", y.front(0, 0), 1);
    promise = "25";
    x = with(TWO);
    due("box(0, false)", x.box(0, false), 0);
    due("box(0, true)", x.box(0, true), 5);
    due("box(1, true)", x.box(1, true), 4);
    x.bounds(1, 2, 3);
    due("box(1, false)", x.box(1, false), 2);
    due("box(1, true)", x.box(1, true), 3);
    refused(x, "box(2, true)", x.box(2, true), 1);
    promise = "26";
    x = with(ONE);
    due("range(2, 0, false)", x.range(2, 0, false), 2);
    due("range(2, 0, true)", x.range(2, 0, true), 4);
    due("range(0, 0, false)", x.range(0, 0, false), 0);
    due("range(5, 0, false)", x.range(5, 0, false), -2);
    due("range(5, 0, true)", x.range(5, 0, true), -2);
    refused(x, "range(41, 0, true)", x.range(41, 0, true), 2);
    refused(x, "range(41, 1, true)", x.range(41, 1, true), 1);
    promise = "27";
    due("ways(0)", x.ways(0), 5);
    due("ways(2)", x.ways(2), 3);
    due("ways(5)", x.ways(5), 0);
    refused(x, "ways(-1)", x.ways(-1), 2);
    x.bounds(0, 3, 5);
    due("ways(0)", x.ways(0), 2);
  }

  private static void flights() {
    promise = "28";
    StageRatios x = with(TWO);
    // low: 24 > 22 > 20 > 19 (solid: its engine doesn't stop); top: 13 > 10, two engines stop, > 9
    int[] flight = {5, 40, 5, 0, 2, 3};
    for (int i = 0; i < 6; i++) {
      due("flight(" + i + ")", x.flight(i), flight[i]);
    }
    refused(x, "flight(6)", x.flight(6), 1);
    refused(x, "flight(-1)", x.flight(-1), 1);
    promise = "29";
    int[][] ticks = {{0, 24, 22, 2, 166}, {0, 22, 20, 2, 181}, {0, 20, 19, 2, 200}, {1, 13, 10, 3, 92}, {1, 10, 9, 1, 40}};
    for (int t = 1; t <= 5; t++) {
      for (int i = 0; i < 5; i++) {
        due("tick(" + t + ", " + i + ")", x.tick(t, i), ticks[t - 1][i]);
      }
    }
    refused(x, "tick(0, 0)", x.tick(0, 0), 1);
    refused(x, "tick(6, 0)", x.tick(6, 0), 1);
    refused(x, "tick(1, 5)", x.tick(1, 5), 1);
    refused(x, "tick(1, -1)", x.tick(1, -1), 1);
    promise = "30";
    due("risk(0, 1)", x.risk(0, 1), 3);
    due("risk(1, 1)", x.risk(1, 1), 1);
    due("risk(1, 2)", x.risk(1, 2), 2);
    due("risk(1, 3)", x.risk(1, 3), 3);
    due("risk(1, 99)", x.risk(1, 99), 3);
    refused(x, "risk(1, 0)", x.risk(1, 0), 2);
    refused(x, "risk(1, 100)", x.risk(1, 100), 2);
    refused(x, "risk(2, 100)", x.risk(2, 100), 1);
    due("what fails for good stays", x.flight(4), 2);
    promise = "31";
    due("riskiest", x.riskiest(), 4);
    x.load(0, 0);
    due("riskiest", x.riskiest(), 1);
    x.load(1, 0);
    due("riskiest", x.riskiest(), -2);
    due("trouble", x.trouble(), 0);
    promise = "28";
    due("no TICKS", x.flight(0), 0);
    due("no PUSH", x.flight(1), -2);
    due("no first TICK", x.flight(2), -2);
    due("flight(5)", x.flight(5), 0);
    x.undo();
    x.undo();
    promise = "32";
    due("arrives", x.arrives(), 1);
    x.power(3);
    due("arrives", x.arrives(), 1);
    x.power(4);
    due("arrives", x.arrives(), 0);
    promise = "33";
    due("flown(true)", x.flown(true), 626870);
    due("flown(false)", x.flown(false), 128122);
    lastEngine();
  }

  private static void lastEngine() {
    promise = "28";
    StageRatios x = with("rocket payload 2 mark 3 by 2 power 1 pull 1;stage a oil dry 2 tank 100 most 1 engines 2 thrust 3 flow 1 least 0 out 0"
        .replace("tank 100", "tank 90").replace("most 1", "most 6") + ";fail a 2 1;fail a 3 9");
    // SHELL 2 + 6; 16 > 14 > 13, then the last engine fails: a TICK without PUSH; 3 of FUEL are dropped
    int[] flight = {3, 0, 3, 3, 2, -2};
    for (int i = 0; i < 6; i++) {
      due("flight(" + i + ")", x.flight(i), flight[i]);
    }
    int[] last = {0, 13, 13, 0, 0};
    for (int i = 0; i < 5; i++) {
      due("tick(3, " + i + ")", x.tick(3, i), last[i]);
    }
    // 16 by 13, to 3, by 8: 512 by 2197
    due("flown(true)", x.flown(true), 512);
    due("flown(false)", x.flown(false), 2197);
    due("arrives", x.arrives(), 0);
    due("risk(0, 1)", x.risk(0, 1), -2);
    due("riskiest", x.riskiest(), 1);
  }

  private static void acts() {
    promise = "34";
    StageRatios x = with(TWO);
    due("bounds(0, 1, 3)", x.bounds(0, 1, 3), 5);
    due("bounds(0, 4, 4)", x.bounds(0, 4, 4), 2);
    due("bounds(0, 0, 5)", x.bounds(0, 0, 5), 0);
    refused(x, "bounds(0, -1, 5)", x.bounds(0, -1, 5), 2);
    refused(x, "bounds(0, 0, 6)", x.bounds(0, 0, 6), 2);
    refused(x, "bounds(0, 3, 2)", x.bounds(0, 3, 2), 2);
    refused(x, "bounds(2, 3, 2)", x.bounds(2, 3, 2), 1);
    due("what is refused is no ACT", x.size(1), 3);
    due("the DIVISION stays, in THE BOX or not", x.mass(), 24);
    promise = "35";
    x = with(ONE);
    due("load(0, 2)", x.load(0, 2), 5);
    due("load(0, 0)", x.load(0, 0), 2);
    due("mass", x.mass(), 15);
    x.bounds(0, 3, 4);
    due("not in THE BOX", x.load(0, 5), 0);
    refused(x, "load(0, 6)", x.load(0, 6), 2);
    refused(x, "load(0, -1)", x.load(0, -1), 2);
    refused(x, "load(1, 6)", x.load(1, 6), 1);
    promise = "36";
    x = with(ONE);
    due("adopt", x.adopt(), 17);
    due("mass", x.mass(), 17);
    due("part(0, 0)", x.part(0, 0), 2);
    due("undo", x.undo() ? 1 : 0, 1);
    due("part(0, 0)", x.part(0, 0), 5);
    x.power(5);
    refused(x, "adopt", x.adopt(), 5);
    due("size(1)", x.size(1), 1);
    promise = "37";
    x = with(ONE);
    due("payload(40)", x.payload(40), 10);
    due("payload(1)", x.payload(1), 40);
    due("mass", x.mass(), 11);
    due("least(0)", x.least(0), 6);
    refused(x, "payload(0)", x.payload(0), 2);
    refused(x, "payload(41)", x.payload(41), 2);
    x.undo();
    x.undo();
    due("least(0)", x.least(0), 15);
    promise = "38";
    due("power(12)", x.power(12), 2);
    due("power(1)", x.power(1), 12);
    refused(x, "power(0)", x.power(0), 2);
    refused(x, "power(13)", x.power(13), 2);
    due("adopt", x.adopt(), 16);
  }

  private static void undone() {
    promise = "39";
    StageRatios x = with(ONE);
    due("undo", x.undo() ? 1 : 0, 0);
    due("trouble", x.trouble(), 1);
    for (int i = 1; i <= 12; i++) {
      x.payload(i);
    }
    due("ten are kept", x.size(1), 10);
    for (int i = 11; i >= 2; i--) {
      due("undo", x.undo() ? 1 : 0, 1);
      due("trouble", x.trouble(), 0);
      due("about(0)", x.about(0), i);
    }
    due("undo", x.undo() ? 1 : 0, 0);
    due("about(0)", x.about(0), 2);
    x.power(7);
    x.bounds(0, 1, 2);
    x.load(0, 1);
    x.load(0, 1);
    due("an ACT that changes nothing is one", x.size(1), 4);
    x.undo();
    x.undo();
    due("FUEL", x.part(0, 0), 5);
    due("box", x.box(0, true), 2);
    x.undo();
    due("box", x.box(0, true), 5);
    due("box", x.box(0, false), 0);
    due("POWER", x.about(3), 7);
    x.undo();
    due("POWER", x.about(3), 2);
    x.undo();
    due("trouble", x.trouble(), 1);
  }

  private static void told() {
    promise = "40";
    StageRatios x = with(TWO);
    due("weak(0)", weakOf(x, 0), 0);
    due("weak(1)", weakOf(x, 1), -100);
    due("weak(-1)", weakOf(x, -1), -100);
    x.payload(40);
    due("weak(0)", weakOf(x, 0), 0);
    due("weak(1)", weakOf(x, 1), 1);
    due("weak(2)", weakOf(x, 2), -100);
    x.mass();
    weakOf(x, 9);
    due("weak leaves trouble", x.trouble(), 0);
    x.risk(9, 9);
    weakOf(x, 0);
    due("weak leaves trouble", x.trouble(), 1);
    x = with(PAIR);
    due("weak(0)", weakOf(x, 0), -100);
    promise = "41";
    due("size(-1)", x.size(-1), -1);
    due("size(2)", x.size(2), -1);
    x.feed(0, 0, 0, 0, 0);
    due("size(0)", x.size(0), 20);
    x.power(3);
    due("size(1)", x.size(1), 1);
    promise = "42";
    x.payload(0);
    due("trouble", x.trouble(), 2);
    x.size(7);
    x.feed(1, 1, 1, 1, 1);
    x.fault();
    x.where();
    due("calls that can't be refused leave it", x.trouble(), 2);
    x.payload(3);
    due("trouble", x.trouble(), 0);
  }

  public static void main(String[] args) {
    newObject();
    tape();
    rocketCall();
    faults();
    placeOfFault();
    facts();
    division();
    speeds();
    best();
    front();
    flights();
    acts();
    undone();
    told();
    System.out.println(wrong == 0 ? asked + " answers are as due" : wrong + " answers are not as due");
    if (wrong != 0) System.exit(1);
  }
}
