import java.nio.ByteBuffer;
import java.nio.charset.StandardCharsets;
import java.util.Arrays;
import java.util.NoSuchElementException;

// What the tests of the boundary cases share. Each case names the sentence of ../shared/DOC.md that it stands for.
abstract class Check {
  static final int MIN = Integer.MIN_VALUE;
  static final int MAX = Integer.MAX_VALUE;
  /** What weak() counts as here where it throws. */
  static final int THROWN = -100;

  interface Make { StageRatios it(); }
  interface Ask { long of(StageRatios x); }

  private static String sentence = "";
  private static int sentences = 0;
  private static int asked = 0;
  private static int wrong = 0;

  static void sentence(String of) {
    sentence = of;
    sentences++;
  }

  static void due(String call, long got, long want) {
    asked++;
    if (got != want) {
      tell(call + " answered " + got + ", due is " + want);
    }
  }

  static void same(String what, String got, String want) {
    asked++;
    if (!got.equals(want)) {
      tell(what + " is\n  " + got + ", due is\n  " + want);
    }
  }

  private static void tell(String what) {
    wrong++;
    if (wrong <= 25) {
      System.out.println(sentence + "\n  " + what);
    }
  }

  static void end() {
    if (wrong != 0) {
      System.out.println(wrong + " answers are not as due");
      System.exit(1);
    }
    System.out.println(sentences + " sentences, " + asked + " answers are as due");
  }

  // ---- texts

  static String head(int payload, int upper, int lower, int power, int pull) {
    return "rocket payload " + payload + " mark " + upper + " by " + lower + " power " + power + " pull " + pull;
  }

  /** Name and KIND, then dry, tank, most, engines, thrust, flow, least, out. */
  static String stage(String nameAndKind, int... n) {
    return ";stage " + nameAndKind + " dry " + n[0] + " tank " + n[1] + " most " + n[2] + " engines " + n[3] + " thrust " + n[4]
        + " flow " + n[5] + " least " + n[6] + " out " + n[7];
  }

  static String fail(String name, int tick, int engines) {
    return ";fail " + name + " " + tick + " " + engines;
  }

  /** Its bytes and blanks up to the next twenty. */
  static void feedText(StageRatios x, String text) {
    byte[] b = text.getBytes(StandardCharsets.ISO_8859_1);
    byte[] all = Arrays.copyOf(b, (b.length + 19) / 20 * 20);
    Arrays.fill(all, b.length, all.length, (byte) 32);
    ByteBuffer left = ByteBuffer.wrap(all);
    while (left.hasRemaining()) {
      x.feed(left.getInt(), left.getInt(), left.getInt(), left.getInt(), left.getInt());
    }
  }

  static int lay(StageRatios x, String text) {
    feedText(x, text);
    return x.rocket(text.length());
  }

  static StageRatios with(String text) {
    StageRatios x = new StageRatios();
    int stages = lay(x, text);
    due("rocket of " + text + " (fault " + x.fault() + " at " + x.where() + ")", stages > 0 ? 1 : 0, 1);
    return x;
  }

  static StageRatios loaded(String text, int... fuel) {
    StageRatios x = with(text);
    for (int s = 0; s < fuel.length; s++) {
      x.load(s, fuel[s]);
    }
    return x;
  }

  static void sound(String text, int stages) {
    StageRatios x = new StageRatios();
    due("rocket of " + text, lay(x, text), stages);
    due("fault of " + text, x.fault(), 0);
    due("where of " + text, x.where(), -1);
    due("trouble of " + text, x.trouble(), 0);
  }

  static void faulty(String text, int number, int place) {
    StageRatios x = new StageRatios();
    due("rocket of " + text, lay(x, text), -1);
    due("trouble of " + text, x.trouble(), 4);
    due("fault of " + text, x.fault(), number);
    due("where of " + text, x.where(), place);
  }

  /** 115 bytes. */
  static final String ONE = head(1, 2, 1, 1, 0) + stage("a oil", 1, 0, 1, 1, 1, 1, 0, 0);
  static final String TWO = head(4, 3, 2, 2, 9) + stage("low solid", 3, 50, 5, 2, 20, 1, 150, 1) + stage("top gas", 3, 25, 4, 3, 4, 1, 60, 1)
      + fail("top", 2, 2) + fail("low", 1, 1);

  /** A ROCKET of two STAGES, four ACTS to undo, and twenty bytes on THE TAPE. */
  static StageRatios busy() {
    StageRatios x = with(TWO);
    x.load(0, 3);
    x.bounds(1, 1, 3);
    x.payload(3);
    x.power(1);
    feedText(x, "rocket payload 7");
    return x;
  }

  // ---- refusals

  static int weakOf(StageRatios x, int i) {
    try {
      return x.weak(i);
    } catch (NoSuchElementException e) {
      return THROWN;
    }
  }

  /** The call is refused by the number, and all else is as it is in an object of which it wasn't asked. */
  static void refused(String call, Make make, Ask ask, long answer, int number) {
    StageRatios x = make.it();
    StageRatios untouched = make.it();
    due(call, ask.of(x), answer);
    due("trouble() after " + call, x.trouble(), number);
    due("where() after " + call, x.where(), -1);
    same("the state after " + call, state(x), state(untouched));
    untouched.undo();
    x.undo();
    same("the state undone after " + call, state(x), state(untouched));
  }

  /** The call is answered, TROUBLE (of a refusal ahead of it) is 0, and all else is as it was. */
  static void only(String call, Make make, Ask ask, long answer) {
    StageRatios x = make.it();
    x.payload(0);
    due(call, ask.of(x), answer);
    due("trouble() after " + call, x.trouble(), 0);
    same("the state after " + call, state(x), state(make.it()));
  }

  /** What can be seen of an object but TROUBLE, in fewer than 120 calls. */
  static String state(StageRatios x) {
    StringBuilder b = new StringBuilder();
    b.append("tape ").append(x.size(0)).append(" undo ").append(x.size(1)).append(" fault ").append(x.fault()).append(" about");
    for (int what = 0; what < 7; what++) b.append(' ').append(x.about(what));
    int stages = x.about(5);
    for (int s = 0; s < stages; s++) {
      b.append(" stage");
      for (int what = 0; what < 10; what++) b.append(' ').append(x.stage(s, what));
      b.append(" part");
      for (int what = 0; what < 5; what++) b.append(' ').append(x.part(s, what));
      b.append(" box ").append(x.box(s, false)).append(' ').append(x.box(s, true));
      b.append(" risk ").append(x.risk(s, 1)).append(" fuel ").append(x.fuel(1, s));
    }
    b.append(" mass ").append(x.mass()).append(" speed ").append(x.speed(true)).append(" by ").append(x.speed(false));
    b.append(" best");
    for (int k = 0; k < 4; k++) b.append(' ').append(x.least(k));
    b.append(" ways ").append(x.ways(0)).append(" front ").append(x.fronts()).append(" lifts ").append(x.lifts()).append(" flight");
    for (int what = 0; what < 6; what++) b.append(' ').append(x.flight(what));
    b.append(" flown ").append(x.flown(true)).append(" by ").append(x.flown(false));
    return b.toString();
  }
}
