import java.math.BigInteger;
import java.util.ArrayDeque;
import java.util.ArrayList;
import java.util.Arrays;
import java.util.List;
import java.util.NoSuchElementException;
import java.util.Random;

// Long runs of calls on made-up rockets (fixed seeds), each answer held against a plain model:
// fractions of BigIntegers multiplied tick by tick, and every division gone through by brute force.
public final class OracleTests {
  private static int wrong = 0;
  private static int asked = 0;

  private static final class Fraction {
    final BigInteger top, bottom;
    Fraction(BigInteger t, BigInteger b) { BigInteger g = t.gcd(b); top = t.divide(g); bottom = b.divide(g); }
    static Fraction of(long t, long b) { return new Fraction(BigInteger.valueOf(t), BigInteger.valueOf(b)); }
    Fraction times(Fraction f) { return new Fraction(top.multiply(f.top), bottom.multiply(f.bottom)); }
    Fraction pow(int k) { return new Fraction(top.pow(k), bottom.pow(k)); }
    int compareTo(Fraction f) { return top.multiply(f.bottom).compareTo(f.top.multiply(bottom)); }
  }

  private static final class Tick { int stage, burn, ahead, behind, running, push; }

  private static final class Course {
    final List<Tick> ticks = new ArrayList<>();
    int dropped, stopped;
    Fraction flown = Fraction.of(1, 1);
  }

  private static final class Fault extends Exception {
    final int number, place;
    Fault(int number, int place) { this.number = number; this.place = place; }
  }

  private static final class Model implements Cloneable {
    byte[] tape = new byte[0];
    boolean told;
    int trouble, fault, place;
    int payload, power, upper, lower, pull;
    List<int[]> stages = new ArrayList<>();
    List<int[]> fails = new ArrayList<>();
    int[] fuel, low, high;
    ArrayDeque<int[][]> history = new ArrayDeque<>();

    int no(int number) { trouble = number; return -1; }
    int yes(int v) { trouble = 0; return v; }

    // ---- the text
    static final String[] STAGE_WORDS = {"dry", "tank", "most", "engines", "thrust", "flow", "least", "out"};
    static final int[][] STAGE_BOUNDS = {{1, 50}, {0, 90}, {1, 16}, {1, 9}, {1, 999}, {1, 9}, {0, 400}, {0, 8}};

    static List<Object[]> tokens(String text) {
      List<Object[]> list = new ArrayList<>();
      java.util.regex.Matcher m = java.util.regex.Pattern.compile("[a-z]+|[0-9]+|[^ ]", java.util.regex.Pattern.DOTALL).matcher(text);
      while (m.find()) {
        String t = m.group();
        char kind = t.matches("[a-z]{1,7}") ? 'w' : t.matches("[0-9]{1,3}") ? 'n' : t.equals(";") ? ';' : '?';
        list.add(new Object[] {kind, t, m.start()});
      }
      list.add(new Object[] {'e', "", text.length()});
      return list;
    }

    void parse(String text) throws Fault {
      List<Object[]> ts = tokens(text);
      int at = 0, lines = 0;
      List<String> names = new ArrayList<>();
      List<int[]> newStages = new ArrayList<>(), newFails = new ArrayList<>();
      int[] rocket = null;
      while (true) {
        char kind = (char) ts.get(at)[0];
        String t = (String) ts.get(at)[1];
        int p = (int) ts.get(at)[2];
        if (kind != 'w' || !List.of("rocket", "stage", "fail").contains(t)) throw new Fault(1, p);
        at++;
        if (t.equals("rocket")) {
          if (lines > 0) throw new Fault(3, p);
          String[] words = {"payload", "mark", "by", "power", "pull"};
          int[][] bounds = {{1, 40}, {2, 99}, {1, 98}, {1, 12}, {0, 99}};
          rocket = new int[5];
          for (int i = 0; i < 5; i++) {
            if (!ts.get(at)[1].equals(words[i])) throw new Fault(1, (int) ts.get(at)[2]);
            at++;
            rocket[i] = whole(ts.get(at), bounds[i][0], i == 2 ? Math.min(98, rocket[1] - 1) : bounds[i][1]);
            at++;
          }
        } else if (rocket == null) {
          throw new Fault(6, p);
        } else if (t.equals("stage")) {
          if (newStages.size() == 3) throw new Fault(5, p);
          String name = name(ts.get(at));
          if (names.contains(name)) throw new Fault(3, (int) ts.get(at)[2]);
          names.add(name);
          at++;
          int[] st = new int[9];
          st[0] = 2 + List.of("solid", "oil", "gas").indexOf(ts.get(at)[1]);
          if (st[0] < 2) throw new Fault(1, (int) ts.get(at)[2]);
          at++;
          for (int i = 0; i < 8; i++) {
            if (!ts.get(at)[1].equals(STAGE_WORDS[i])) throw new Fault(1, (int) ts.get(at)[2]);
            at++;
            st[i + 1] = whole(ts.get(at), STAGE_BOUNDS[i][0], i == 7 ? st[4] - 1 : STAGE_BOUNDS[i][1]);
            at++;
          }
          newStages.add(st);
        } else {
          if (newFails.size() == 6) throw new Fault(5, p);
          String name = name(ts.get(at));
          int s = names.indexOf(name);
          if (s < 0) throw new Fault(2, (int) ts.get(at)[2]);
          at++;
          int last = 0;
          for (int[] f : newFails) if (f[0] == s) last = Math.max(last, f[1]);
          int tick = whole(ts.get(at), last + 1, 99);
          at++;
          int count = whole(ts.get(at), 1, 9);
          at++;
          newFails.add(new int[] {s, tick, count});
        }
        lines++;
        if ((char) ts.get(at)[0] == 'e') break;
        if ((char) ts.get(at)[0] != ';') throw new Fault(1, (int) ts.get(at)[2]);
        at++;
      }
      if (newStages.isEmpty()) throw new Fault(6, text.length());
      stages = newStages;
      fails = newFails;
      payload = rocket[0]; upper = rocket[1]; lower = rocket[2]; power = rocket[3]; pull = rocket[4];
    }

    static String name(Object[] token) throws Fault {
      if ((char) token[0] != 'w' || List.of("rocket", "stage", "fail").contains(token[1])) throw new Fault(1, (int) token[2]);
      return (String) token[1];
    }

    static int whole(Object[] token, int low, int high) throws Fault {
      if ((char) token[0] != 'n') throw new Fault(1, (int) token[2]);
      int v = Integer.parseInt((String) token[1]);
      if (v < low || v > high) throw new Fault(4, (int) token[2]);
      return v;
    }

    int feed(int... five) {
      if (tape.length + 20 > 700) return -1;
      int n = tape.length;
      tape = Arrays.copyOf(tape, n + 20);
      java.nio.ByteBuffer.wrap(tape, n, 20).putInt(five[0]).putInt(five[1]).putInt(five[2]).putInt(five[3]).putInt(five[4]);
      return tape.length;
    }

    int rocket(int n) {
      if (n < 0 || n > tape.length) return no(2);
      String text = new String(tape, 0, n, java.nio.charset.StandardCharsets.ISO_8859_1);
      tape = new byte[0];
      fault = 0;
      try {
        parse(text);
      } catch (Fault f) {
        fault = f.number;
        place = f.place;
        return no(4);
      }
      told = true;
      history.clear();
      int k = stages.size();
      fuel = new int[k]; low = new int[k]; high = new int[k];
      for (int s = 0; s < k; s++) fuel[s] = high[s] = stages.get(s)[3];
      return yes(k);
    }

    int where() { return trouble == 4 ? place : -1; }

    // ---- a division
    int shell(int s, int[] f) {
      int[] st = stages.get(s);
      int full = st[1] + f[s] * st[2] / 100 + (f[s] * st[2] % 100 > 0 ? 1 : 0);
      return st[0] == 4 ? full + st[1] / 2 : full;
    }
    int start(int s, int[] f) {
      int m = payload;
      for (int j = s; j < f.length; j++) m += shell(j, f) + f[j];
      return m;
    }
    int marginWith(int s, int[] f, int out) { return 100 * stages.get(s)[5] * (stages.get(s)[4] - out) / start(s, f); }
    boolean holdsAt(int s, int[] f) { return marginWith(s, f, stages.get(s)[8]) >= stages.get(s)[7]; }
    boolean holdsAll(int[] f) { for (int s = 0; s < f.length; s++) if (!holdsAt(s, f)) return false; return true; }
    Fraction speedOf(int[] f) {
      Fraction p = Fraction.of(1, 1);
      for (int s = 0; s < f.length; s++) p = p.times(Fraction.of(start(s, f), start(s, f) - f[s]).pow(stages.get(s)[0]));
      return p;
    }
    boolean reachesBy(Fraction p, int k) { return p.compareTo(Fraction.of(upper, lower).pow(k)) >= 0; }
    int greatestOf(Fraction p) {
      int g = -2;
      for (int k = 0; k <= 40; k++) if (reachesBy(p, k)) g = k;
      return g;
    }
    List<int[]> divisions(int[] lo, int[] hi) {
      List<int[]> all = new ArrayList<>();
      all.add(new int[0]);
      for (int s = 0; s < stages.size(); s++) {
        List<int[]> next = new ArrayList<>();
        for (int[] f : all) for (int u = lo[s]; u <= hi[s]; u++) { int[] g = Arrays.copyOf(f, s + 1); g[s] = u; next.add(g); }
        all = next;
      }
      return all;
    }
    int[] bestIn(int[] lo, int[] hi, int k) {
      int[] best = null;
      for (int[] f : divisions(lo, hi))
        if (holdsAll(f) && (best == null || start(0, f) < start(0, best)) && reachesBy(speedOf(f), k)) best = f;
      return best;
    }
    List<int[]> frontList() {
      java.util.TreeMap<Integer, int[]> byMass = new java.util.TreeMap<>();
      for (int[] f : divisions(low, high))
        if (holdsAll(f)) {
          int[] old = byMass.get(start(0, f));
          if (old == null || speedOf(f).compareTo(speedOf(old)) > 0) byMass.put(start(0, f), f);
        }
      List<int[]> list = new ArrayList<>();
      for (int[] f : byMass.values()) {
        boolean beaten = false;
        for (int[] g : byMass.values()) if (start(0, g) < start(0, f) && speedOf(g).compareTo(speedOf(f)) >= 0) beaten = true;
        if (!beaten) list.add(f);
      }
      return list;
    }
    Course fly(int extra, int extraTick) {
      Course c = new Course();
      for (int s = 0; s < fuel.length; s++) {
        int[] st = stages.get(s);
        int run = st[4], left = fuel[s], flies = start(s, fuel), t = 0;
        while (left > 0 && run > 0) {
          t++;
          int failing = s == extra && t == extraTick ? 1 : 0;
          for (int[] f : fails) if (f[0] == s && f[1] == t) failing += f[2];
          if (st[0] != 2) { int stop = Math.min(failing, run); run -= stop; c.stopped += stop; }
          Tick k = new Tick();
          k.stage = s; k.burn = t; k.ahead = flies; k.running = run; k.push = 100 * st[5] * run / flies;
          int burnt = Math.min(left, st[6] * run);
          left -= burnt;
          flies -= burnt;
          k.behind = flies;
          c.ticks.add(k);
          c.flown = c.flown.times(Fraction.of(k.ahead, k.behind).pow(st[0]));
          if (pull > 0) c.flown = c.flown.times(Fraction.of(pull, pull + 1));
        }
        c.dropped += left;
      }
      return c;
    }

    boolean has(int s) { return told && s >= 0 && s < stages.size(); }
    static boolean power40(int k) { return k >= 0 && k <= 40; }
    static int modular(Fraction f, boolean up) { return (up ? f.top : f.bottom).mod(BigInteger.valueOf(1000003)).intValue(); }

    int about(int w) {
      if (!told || w < 0 || w > 6) return no(1);
      return yes(new int[] {payload, upper, lower, power, pull, stages.size(), fails.size()}[w]);
    }
    int stage(int s, int w) { return !has(s) || w < 0 || w > 9 ? no(1) : yes(w == 9 ? shell(s, fuel) : stages.get(s)[w]); }
    int part(int s, int w) {
      if (!has(s) || w < 0 || w > 4) return no(1);
      int st = start(s, fuel);
      return yes(new int[] {fuel[s], st, st - fuel[s], holdsAt(s, fuel) ? 1 : 0, marginWith(s, fuel, stages.get(s)[8])}[w]);
    }
    int margin(int s, int out) { return !has(s) ? no(1) : out < 0 || out > stages.get(s)[4] ? no(2) : yes(marginWith(s, fuel, out)); }
    int spare(int s) {
      if (!has(s)) return no(1);
      int found = -2;
      for (int o = 0; o <= stages.get(s)[4]; o++) if (marginWith(s, fuel, o) >= stages.get(s)[7]) found = o;
      return yes(found);
    }
    int mass() { return !told ? no(1) : yes(start(0, fuel)); }
    int reaches(int k) { return !told ? no(1) : !power40(k) ? no(2) : yes(reachesBy(speedOf(fuel), k) ? 1 : 0); }
    int greatest() { return !told ? no(1) : yes(greatestOf(speedOf(fuel))); }
    int speed(boolean up) { return !told ? no(1) : yes(modular(speedOf(fuel), up)); }
    int holds() { return !told ? no(1) : yes(holdsAll(fuel) ? 1 : 0); }
    int richer(int s, int o) {
      if (!has(s) || !has(o) || s == o) { no(1); return -2; }
      if (fuel[s] == stages.get(s)[3] || fuel[o] == stages.get(o)[3]) { no(5); return -2; }
      int[] a = fuel.clone(), b = fuel.clone();
      a[s]++;
      b[o]++;
      return yes(Integer.signum(speedOf(a).compareTo(speedOf(b))));
    }
    int least(int k) {
      if (!told) return no(1);
      if (!power40(k)) return no(2);
      int[] b = bestIn(low, high, k);
      return yes(b == null ? -2 : start(0, b));
    }
    int fuel(int k, int s) {
      if (!has(s)) return no(1);
      if (!power40(k)) return no(2);
      int[] b = bestIn(low, high, k);
      return yes(b == null ? -2 : b[s]);
    }
    int farthest() {
      if (!told) return no(1);
      int g = -2;
      for (int[] f : divisions(low, high)) if (holdsAll(f)) g = Math.max(g, greatestOf(speedOf(f)));
      return yes(g);
    }
    int lifts() {
      if (!told) return no(1);
      int was = payload, found = -2;
      for (int p = 40; p >= 1 && found < 0; p--) { payload = p; if (bestIn(low, high, power) != null) found = p; }
      payload = was;
      return yes(found);
    }
    int needs(int s) {
      if (!has(s)) return no(1);
      int[] lo = low.clone(), hi = high.clone();
      lo[s] = 0;
      hi[s] = 0;
      int[] b = bestIn(low, high, power), w = bestIn(lo, hi, power);
      return yes(b == null || w == null ? -2 : start(0, w) - start(0, b));
    }
    int fronts() { return !told ? no(1) : yes(frontList().size()); }
    int front(int i, int w) {
      if (!told || w < 0 || w > 4) return no(1);
      List<int[]> l = frontList();
      if (i < 0 || i >= l.size()) return no(1);
      int[] f = l.get(i);
      return yes(w == 0 ? start(0, f) : w == 1 ? greatestOf(speedOf(f)) : w - 2 < f.length ? f[w - 2] : -2);
    }
    int beaten() {
      if (!told) return no(1);
      for (int[] f : frontList()) {
        int m = start(0, fuel) - start(0, f), v = speedOf(f).compareTo(speedOf(fuel));
        if (m >= 0 && v >= 0 && (m > 0 || v > 0)) return yes(1);
      }
      return yes(0);
    }
    int box(int s, boolean up) { return !has(s) ? no(1) : yes(up ? high[s] : low[s]); }
    int range(int k, int s, boolean up) {
      if (!has(s)) return no(1);
      if (!power40(k)) return no(2);
      int found = -2;
      for (int[] f : divisions(low, high))
        if (holdsAll(f) && reachesBy(speedOf(f), k)) found = found == -2 ? f[s] : up ? Math.max(found, f[s]) : Math.min(found, f[s]);
      return yes(found);
    }
    int ways(int k) {
      if (!told) return no(1);
      if (!power40(k)) return no(2);
      int n = 0;
      for (int[] f : divisions(low, high)) if (holdsAll(f) && reachesBy(speedOf(f), k)) n++;
      return yes(n);
    }
    int flight(int w) {
      if (!told || w < 0 || w > 5) return no(1);
      Course c = fly(-1, 0);
      int least = -2, first = -2;
      for (int i = 0; i < c.ticks.size(); i++)
        if (least == -2 || c.ticks.get(i).push < least) { least = c.ticks.get(i).push; first = i + 1; }
      return yes(new int[] {c.ticks.size(), least, first, c.dropped, c.stopped, greatestOf(c.flown)}[w]);
    }
    int tick(int t, int w) {
      if (!told || w < 0 || w > 4) return no(1);
      Course c = fly(-1, 0);
      if (t < 1 || t > c.ticks.size()) return no(1);
      Tick k = c.ticks.get(t - 1);
      return yes(new int[] {k.stage, k.ahead, k.behind, k.running, k.push}[w]);
    }
    int risk(int s, int t) { return !has(s) ? no(1) : t < 1 || t > 99 ? no(2) : yes(greatestOf(fly(s, t).flown)); }
    int riskiest() {
      if (!told) return no(1);
      Course c = fly(-1, 0);
      int found = -2, least = 99;
      for (int i = 0; i < c.ticks.size(); i++) {
        int r = greatestOf(fly(c.ticks.get(i).stage, c.ticks.get(i).burn).flown);
        if (r < least) { least = r; found = i + 1; }
      }
      return yes(found);
    }
    int arrives() { return !told ? no(1) : yes(reachesBy(fly(-1, 0).flown, power) ? 1 : 0); }
    int flown(boolean up) { return !told ? no(1) : yes(modular(fly(-1, 0).flown, up)); }

    void keep() {
      history.push(new int[][] {{payload, power}, fuel.clone(), low.clone(), high.clone()});
      if (history.size() > 10) history.removeLast();
    }
    int bounds(int s, int lo, int hi) {
      if (!has(s)) return no(1);
      if (lo < 0 || hi > stages.get(s)[3] || lo > hi) return no(2);
      int was = high[s] - low[s];
      keep();
      low[s] = lo;
      high[s] = hi;
      return yes(was);
    }
    int load(int s, int f) {
      if (!has(s)) return no(1);
      if (f < 0 || f > stages.get(s)[3]) return no(2);
      int was = fuel[s];
      keep();
      fuel[s] = f;
      return yes(was);
    }
    int adopt() {
      if (!told) return no(1);
      int[] b = bestIn(low, high, power);
      if (b == null) return no(5);
      keep();
      fuel = b.clone();
      return yes(start(0, b));
    }
    int payload(int v) {
      if (!told) return no(1);
      if (v < 1 || v > 40) return no(2);
      int was = payload;
      keep();
      payload = v;
      return yes(was);
    }
    int power(int v) {
      if (!told) return no(1);
      if (v < 1 || v > 12) return no(2);
      int was = power;
      keep();
      power = v;
      return yes(was);
    }
    boolean undo() {
      if (!told || history.isEmpty()) { no(1); return false; }
      int[][] h = history.pop();
      payload = h[0][0];
      power = h[0][1];
      fuel = h[1];
      low = h[2];
      high = h[3];
      yes(0);
      return true;
    }
    int weak(int i) {
      if (told && i >= 0) for (int s = 0; s < fuel.length; s++) if (!holdsAt(s, fuel) && i-- == 0) return s;
      return -1000;
    }
    int size(int w) { return w == 0 ? tape.length : w == 1 ? history.size() : -1; }
  }

  private static Random r;
  private static int in(int low, int high) { return low + r.nextInt(high - low + 1); }
  private static int odd(int low, int high) {
    int k = r.nextInt(40);
    return k == 0 ? low - 1 : k == 1 ? high + 1 : k == 2 ? Integer.MIN_VALUE : k == 3 ? Integer.MAX_VALUE : in(low, high);
  }

  private static String pick(String... words) { return words[r.nextInt(words.length)]; }

  private static String rocketText(int greatestMost) {
    int upper = r.nextInt(3) == 0 ? in(2, 99) : in(3, 20);
    int lower = r.nextInt(3) == 0 ? in(1, Math.min(98, upper - 1)) : upper - 1;
    StringBuilder b = new StringBuilder();
    b.append("rocket payload " + (r.nextBoolean() ? in(1, 6) : in(1, 40)) + " mark " + upper + " by " + lower + " power " + in(1, r.nextBoolean() ? 4 : 12)
        + " pull " + pick("0", "99", "" + in(0, 99), "" + in(1, 9)));
    int stages = in(1, 3);
    String[] names = {"a", "low", "oil"};
    int failsLeft = in(0, 6);
    int[] last = new int[3];
    for (int s = 0; s < stages; s++) {
      int most = in(1, greatestMost), engines = in(1, r.nextBoolean() ? 3 : 9);
      b.append("; stage " + names[s] + " " + pick("solid", "oil", "gas") + " dry " + in(1, r.nextBoolean() ? 5 : 50) + " tank " + pick("0", "90", "" + in(0, 90))
          + " most " + most + " engines " + engines + " thrust " + (r.nextBoolean() ? in(1, 60) : in(1, 999)) + " flow " + (r.nextBoolean() ? 1 : in(1, 9)) + " least "
          + (r.nextInt(3) == 0 ? 0 : in(0, r.nextBoolean() ? 120 : 400)) + " out " + in(0, r.nextBoolean() ? 0 : engines - 1));
      while (failsLeft > 0 && r.nextInt(3) > 0) {
        int f = in(0, s), t = last[f] + in(1, 4);
        last[f] = t;
        b.append("; fail " + names[f] + " " + t + " " + in(1, r.nextBoolean() ? 2 : 9));
        failsLeft--;
      }
    }
    return b.toString();
  }

  // A text with one to three changes: most have a fault, some are as sound as before.
  private static String spoilt(String text) {
    List<String> parts = new ArrayList<>(Arrays.asList(text.split("(?<=[ ;])|(?=[ ;])")));
    for (int n = in(1, 3); n > 0; n--) {
      int i = r.nextInt(parts.size());
      switch (r.nextInt(9)) {
        case 0: parts.remove(i); if (parts.isEmpty()) parts.add(" "); break;
        case 1: parts.add(i, parts.get(r.nextInt(parts.size()))); break;
        case 2: parts.set(i, parts.get(r.nextInt(parts.size()))); break;
        case 3: parts.set(i, pick("rocket", "stage", "fail", "oil", "gas", "x", "out", "payload", "abcdefgh", "abcdefg")); break;
        case 4: parts.set(i, pick("0", "1", "007", "1000", "999", "41", "100", "17", "10", "2")); break;
        case 5: parts.set(i, pick(";", " ", "  ", "#", "A", "\u00e9", "\t", ";;", "`", "{", "/", ":")); break;
        case 6: parts.add(pick(";", " ", "; fail a 98 1", "; fail a 99 1; fail a 99 1", "; stage q", "; rocket", ";fail low 50 9")); break;
        case 7: parts.add(0, pick(" ", "stage ", "fail ", ";", "x", "7", "rocket ")); break;
        default: while (parts.size() > i + 1) parts.remove(parts.size() - 1);
      }
    }
    return String.join("", parts);
  }

  private static void due(String call, long got, long want) {
    asked++;
    if (got != want && wrong++ < 40) System.out.println(call + " answered " + got + ", due is " + want);
  }

  private static boolean lay(StageRatios x, Model m, String text, int n, String run) {
    byte[] bytes = text.getBytes(java.nio.charset.StandardCharsets.ISO_8859_1);
    bytes = Arrays.copyOf(bytes, (bytes.length + 19) / 20 * 20);
    java.nio.IntBuffer ints = java.nio.ByteBuffer.wrap(bytes).asIntBuffer();
    for (int i = 0; i + 5 <= ints.limit(); i += 5) {
      int[] f = {ints.get(i), ints.get(i + 1), ints.get(i + 2), ints.get(i + 3), ints.get(i + 4)};
      due(run + "feed", x.feed(f[0], f[1], f[2], f[3], f[4]), m.feed(f));
    }
    due(run + "size(0)", x.size(0), m.size(0));
    int got = x.rocket(n);
    int want = m.rocket(n);
    due(run + "rocket(" + n + ") of " + text, got, want);
    due(run + "trouble() of " + text, x.trouble(), m.trouble);
    due(run + "fault() of " + text, x.fault(), m.fault);
    due(run + "where() of " + text, x.where(), m.where());
    due(run + "size(0)", x.size(0), m.size(0));
    due(run + "size(1)", x.size(1), m.size(1));
    return want > 0;
  }

  private static void call(StageRatios x, Model m, String run) {
    int s = odd(0, 2), k = r.nextBoolean() ? odd(0, 40) : in(0, 6), w = in(-1, 10);
    boolean up = r.nextBoolean();
    long got, want;
    String name;
    switch (r.nextInt(44)) {
      case 0: name = "about " + w; got = x.about(w); want = m.about(w); break;
      case 1: name = "stage " + s + " " + w; got = x.stage(s, w); want = m.stage(s, w); break;
      case 2: case 3: w = in(-1, 5); name = "part " + s + " " + w; got = x.part(s, w); want = m.part(s, w); break;
      case 4: k = odd(0, 9); name = "margin " + s + " " + k; got = x.margin(s, k); want = m.margin(s, k); break;
      case 5: name = "spare " + s; got = x.spare(s); want = m.spare(s); break;
      case 6: name = "mass"; got = x.mass(); want = m.mass(); break;
      case 7: name = "reaches " + k; got = x.reaches(k); want = m.reaches(k); break;
      case 8: name = "greatest"; got = x.greatest(); want = m.greatest(); break;
      case 9: name = "speed " + up; got = x.speed(up); want = m.speed(up); break;
      case 10: name = "holds"; got = x.holds(); want = m.holds(); break;
      case 11: case 12: k = odd(0, 2); name = "richer " + s + " " + k; got = x.richer(s, k); want = m.richer(s, k); break;
      case 13: name = "least " + k; got = x.least(k); want = m.least(k); break;
      case 14: name = "fuel " + k + " " + s; got = x.fuel(k, s); want = m.fuel(k, s); break;
      case 15: name = "farthest"; got = x.farthest(); want = m.farthest(); break;
      case 16: name = "lifts"; got = x.lifts(); want = m.lifts(); break;
      case 17: name = "needs " + s; got = x.needs(s); want = m.needs(s); break;
      case 18: name = "fronts"; got = x.fronts(); want = m.fronts(); break;
      case 19: case 20: k = in(-1, 12); w = in(-1, 5); name = "front " + k + " " + w; got = x.front(k, w); want = m.front(k, w); break;
      case 21: name = "beaten"; got = x.beaten(); want = m.beaten(); break;
      case 22: name = "box " + s + " " + up; got = x.box(s, up); want = m.box(s, up); break;
      case 23: name = "range " + k + " " + s + " " + up; got = x.range(k, s, up); want = m.range(k, s, up); break;
      case 24: name = "ways " + k; got = x.ways(k); want = m.ways(k); break;
      case 25: case 26: w = in(-1, 6); name = "flight " + w; got = x.flight(w); want = m.flight(w); break;
      case 27: case 28: k = in(-1, 20); w = in(-1, 5); name = "tick " + k + " " + w; got = x.tick(k, w); want = m.tick(k, w); break;
      case 29: k = r.nextBoolean() ? odd(1, 99) : in(1, 8); name = "risk " + s + " " + k; got = x.risk(s, k); want = m.risk(s, k); break;
      case 30: name = "riskiest"; got = x.riskiest(); want = m.riskiest(); break;
      case 31: name = "arrives"; got = x.arrives(); want = m.arrives(); break;
      case 32: name = "flown " + up; got = x.flown(up); want = m.flown(up); break;
      case 33: case 34: {
        int lo = odd(0, 3), hi = odd(0, 8);
        name = "bounds " + s + " " + lo + " " + hi; got = x.bounds(s, lo, hi); want = m.bounds(s, lo, hi); break;
      }
      case 35: case 36: case 37: k = odd(0, 8); name = "load " + s + " " + k; got = x.load(s, k); want = m.load(s, k); break;
      case 38: name = "adopt"; got = x.adopt(); want = m.adopt(); break;
      case 39: k = odd(1, 40); name = "payload " + k; got = x.payload(k); want = m.payload(k); break;
      case 40: k = odd(1, 12); name = "power " + k; got = x.power(k); want = m.power(k); break;
      case 41: case 42: name = "undo"; got = x.undo() ? 1 : 0; want = m.undo() ? 1 : 0; break;
      default:
        k = odd(0, 2);
        name = "weak " + k;
        try { got = x.weak(k); } catch (NoSuchElementException e) { got = -1000; }
        want = m.weak(k);
    }
    due(run + name, got, want);
    due(run + "trouble() after " + name, x.trouble(), m.trouble);
    if (r.nextInt(10) == 0) due(run + "size(1)", x.size(1), m.size(1));
    if (r.nextInt(10) == 0) due(run + "where()", x.where(), m.where());
    if (r.nextInt(10) == 0) due(run + "fault()", x.fault(), m.fault);
  }

  public static void main(String[] args) {
    for (int seed = 1; seed <= 700; seed++) {
      r = new Random(seed);
      String run = "seed " + seed + ": ";
      StageRatios x = new StageRatios();
      Model m = new Model();
      for (int i = 0; i < 5; i++) call(x, m, run);
      int most = seed % 100 == 0 ? 16 : 6;
      String text = rocketText(most);
      lay(x, m, text, text.length(), run);
      for (int i = 0; i < 60; i++) call(x, m, run);
      String other = spoilt(rocketText(most));
      lay(x, m, other, Math.min(700, other.length()), run);
      for (int i = 0; i < 60; i++) call(x, m, run);
    }
    int sound = 0;
    for (int seed = 1; seed <= 20000; seed++) {
      r = new Random(1000000 + seed);
      String text = spoilt(rocketText(16));
      int n = text.length() <= 680 ? text.length() : 680;
      if (lay(new StageRatios(), new Model(), text.substring(0, n), n, "text " + seed + ": ")) sound++;
    }
    if (sound < 1000 || sound > 19000) due("sound texts", sound, 10000);
    System.out.println(wrong == 0 ? asked + " answers are as due" : wrong + " answers are not as due");
    if (wrong != 0) System.exit(1);
  }
}
