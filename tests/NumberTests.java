import java.lang.reflect.Constructor;
import java.lang.reflect.Method;
import java.math.BigInteger;
import java.util.Random;

// The exact numbers inside the class against BigInteger. Two products so near that they are weighed exactly hardly ever
// differ in length, so no rocket was found that shows how such are compared: it is asked of the numbers themselves.
public final class NumberTests {
  private static final int BITS = 48;
  private static int asked = 0;
  private static int wrong = 0;
  private static Constructor<?> make;
  private static Method setOne;
  private static Method multiply;
  private static Method compare;

  private static final class Pair {
    final Object big;
    BigInteger due = BigInteger.ONE;

    Pair() throws Exception {
      big = make.newInstance();
      setOne.invoke(big);
    }

    Pair times(int factor) throws Exception {
      multiply.invoke(big, factor);
      due = due.multiply(BigInteger.valueOf(factor));
      return this;
    }

    Pair twos(int n) throws Exception {
      for (int i = 0; i < n; i++) times(2);
      return this;
    }
  }

  private static void hold(Pair a, Pair b) throws Exception {
    asked++;
    int got = (int) compare.invoke(a.big, b.big);
    int want = a.due.compareTo(b.due);
    if (got != want) {
      wrong++;
      System.out.println(a.due + " against " + b.due + " answered " + got + ", due is " + want);
    }
  }

  private static void both(Pair a, Pair b) throws Exception {
    hold(a, b);
    hold(b, a);
  }

  private static Pair random(Random r, int bits) throws Exception {
    Pair p = new Pair();
    while (p.due.bitLength() < bits) p.times(2 + r.nextInt(357));
    return p;
  }

  public static void main(String[] args) throws Exception {
    Class<?> c = Class.forName("StageRatios$Big");
    make = c.getDeclaredConstructor();
    setOne = c.getDeclaredMethod("setOne");
    multiply = c.getDeclaredMethod("multiply", int.class);
    compare = c.getDeclaredMethod("compare", c);
    make.setAccessible(true);
    setOne.setAccessible(true);
    multiply.setAccessible(true);
    compare.setAccessible(true);

    // a number that just needs one limb more against ones that just don't, with greater limbs below
    for (int limbs = 1; limbs <= 14; limbs++) {
      Pair more = new Pair().twos(BITS * limbs);
      Pair less = new Pair();
      while (less.due.multiply(BigInteger.valueOf(3)).bitLength() <= BITS * limbs) less.times(3);
      both(more, less);
      both(more, new Pair().twos(BITS * limbs - 1));
      both(more, new Pair().twos(BITS * limbs));
      both(more, new Pair().twos(BITS * limbs - 8).times(257));
      both(more, new Pair().twos(BITS * limbs - 8).times(255));
      both(more, new Pair());
    }
    Random r = new Random(5);
    for (int i = 0; i < 20000; i++) {
      both(random(r, 1 + r.nextInt(700)), random(r, 1 + r.nextInt(700)));
    }
    // one number by different ways, and a used one begun again
    for (int i = 0; i < 500; i++) {
      Pair a = random(r, 600);
      setOne.invoke(a.big);
      a.due = BigInteger.ONE;
      Pair b = new Pair();
      for (int k = 0; k < 50; k++) {
        a.times(k + 2);
        b.times(51 - k);
      }
      both(a, b);
      both(a.times(99), b.times(98));
    }
    System.out.println(wrong == 0 ? asked + " comparisons are as due" : wrong + " comparisons are not as due");
    if (wrong != 0) System.exit(1);
  }
}
