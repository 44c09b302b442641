import java.nio.ByteBuffer;
import java.nio.charset.StandardCharsets;
import java.util.Arrays;
import java.util.NoSuchElementException;

// The greatest ROCKET there can be, 512 calls of the dearest kinds on it, wild arguments, and the room all that takes.
public final class LimitTests {
  private static final int[] WILD = {Integer.MIN_VALUE, -1000000, -2, -1, 0, 1, 2, 3, 4, 5, 9, 10, 12, 16, 17, 40, 41, 99, 100, 700, 701,
      715827882, 715827883, Integer.MAX_VALUE};
  private static int wrong = 0;

  private static void due(String call, long got, long want) {
    if (got != want) {
      wrong++;
      System.out.println(call + " answered " + got + ", due is " + want);
    }
  }

  private static void lay(StageRatios x, String text) {
    byte[] b = text.getBytes(StandardCharsets.ISO_8859_1);
    ByteBuffer all = ByteBuffer.wrap(Arrays.copyOf(b, (b.length + 19) / 20 * 20));
    while (all.hasRemaining()) {
      x.feed(all.getInt(), all.getInt(), all.getInt(), all.getInt(), all.getInt());
    }
    due("rocket", x.rocket(text.length()) > 0 ? 1 : 0, 1);
  }

  private static String greatest(int payload, int upper, int lower, int thrust, int least) {
    StringBuilder b = new StringBuilder("rocket payload " + payload + " mark " + upper + " by " + lower + " power 12 pull 99");
    for (char name = 'a'; name <= 'c'; name++) {
      b.append(";stage " + name + " gas dry 50 tank 90 most 16 engines 9 thrust " + thrust + " flow 1 least " + least + " out 0");
      b.append(";fail " + name + " 1 8;fail " + name + " 99 9");
    }
    return b.toString();
  }

  private static long allocated() {
    java.lang.management.ThreadMXBean bean = java.lang.management.ManagementFactory.getThreadMXBean();
    if (bean instanceof com.sun.management.ThreadMXBean) {
      return ((com.sun.management.ThreadMXBean) bean).getThreadAllocatedBytes(Thread.currentThread().getId());
    }
    return 0;
  }

  private static int dear(StageRatios x, int i) {
    switch (i % 12) {
      case 0: return x.payload(1 + i % 40);
      case 1: return x.lifts();
      case 2: return x.farthest();
      case 3: return x.fronts();
      case 4: return x.front(i % 7, 1);
      case 5: return x.beaten();
      case 6: return x.ways(i % 41);
      case 7: return x.riskiest();
      case 8: return x.flown(true);
      case 9: return x.needs(i % 3);
      case 10: return x.range(i % 41, i % 3, true);
      default: return x.undo() ? 1 : 0;
    }
  }

  private static void dearCalls() {
    String[] texts = {greatest(40, 99, 98, 999, 0), greatest(40, 99, 98, 999, 250), greatest(1, 99, 98, 1, 1), greatest(40, 99, 1, 999, 0)};
    for (String text : texts) {
      StageRatios x = new StageRatios();
      lay(x, text);
      long before = allocated();
      for (int i = 0; i < 470; i++) {
        dear(x, i);
      }
      // a call makes no objects: what is seen here is the machine's own
      due("much made", allocated() - before > 200000 ? 1 : 0, 0);
    }
    StageRatios x = new StageRatios();
    lay(x, greatest(40, 99, 98, 999, 0));
    due("mass", x.mass(), 40 + 3 * (50 + 25 + 15 + 16));
    due("ways(0)", x.ways(0), 17 * 17 * 17);
    due("flight(0)", x.flight(0), 48);
    due("riskiest", x.riskiest() > 0 ? 1 : 0, 1);
    // 2.48 of SPEED, 0.61 of it left by PULL: 99 by 98 to 42
    due("flight(5)", x.flight(5), 40);
  }

  private static int wildCall(StageRatios x, int call, int a, int b, int c) {
    boolean up = (a & 1) == 0;
    switch (call) {
      case 0: return x.feed(a, b, c, a, b);
      case 1: return x.rocket(a > 0 ? -a : a);
      case 2: return x.about(a);
      case 3: return x.stage(a, b);
      case 4: return x.part(a, b);
      case 5: return x.margin(a, b);
      case 6: return x.spare(a);
      case 7: return x.reaches(a);
      case 8: return x.richer(a, b);
      case 9: return x.least(a);
      case 10: return x.fuel(a, b);
      case 11: return x.needs(a);
      case 12: return x.front(a, b);
      case 13: return x.box(a, up);
      case 14: return x.range(a, b, up);
      case 15: return x.ways(a);
      case 16: return x.flight(a);
      case 17: return x.tick(a, b);
      case 18: return x.risk(a, b);
      case 19: return x.bounds(a, b, c);
      case 20: return x.load(a, b);
      case 21: return x.payload(a);
      case 22: return x.power(a);
      case 23: return x.size(a);
      default:
        try {
          return x.weak(a);
        } catch (NoSuchElementException e) {
          return -1;
        }
    }
  }

  private static void wildCalls() {
    StageRatios none = new StageRatios();
    for (int call = 0; call <= 24; call++) {
      StageRatios x = new StageRatios();
      lay(x, "rocket payload 4 mark 3 by 2 power 2 pull 9;stage a oil dry 1 tank 9 most 5 engines 2 thrust 99 flow 1 least 9 out 1"
          + ";stage b gas dry 1 tank 9 most 2 engines 9 thrust 9 flow 1 least 9 out 0;fail b 1 9");
      for (int a : WILD) {
        for (int b : WILD) {
          for (int c : call == 19 ? WILD : new int[] {b}) {
            wildCall(x, call, a, b, c);
            wildCall(none, call, a, b, c);
          }
        }
      }
    }
  }

  public static void main(String[] args) {
    dearCalls();
    wildCalls();
    System.out.println(wrong == 0 ? "all limits are kept" : wrong + " answers are not as due");
    if (wrong != 0) System.exit(1);
  }
}
