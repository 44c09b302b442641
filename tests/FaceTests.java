import java.lang.reflect.Constructor;
import java.lang.reflect.Field;
import java.lang.reflect.Member;
import java.lang.reflect.Method;
import java.lang.reflect.Modifier;
import java.util.Arrays;
import java.util.TreeSet;

// The face is the document's and nothing else can be seen from outside; no private method bears a name of it.
public final class FaceTests {
  private static final String[] FACE = {
    "int feed(int,int,int,int,int)", "int rocket(int)", "int fault()", "int where()", "int about(int)", "int stage(int,int)",
    "int part(int,int)", "int margin(int,int)", "int spare(int)", "int mass()", "int reaches(int)", "int greatest()",
    "int speed(boolean)", "int holds()", "int richer(int,int)", "int least(int)", "int fuel(int,int)", "int farthest()",
    "int lifts()", "int needs(int)", "int fronts()", "int front(int,int)", "int beaten()", "int box(int,boolean)",
    "int range(int,int,boolean)", "int ways(int)", "int flight(int)", "int tick(int,int)", "int risk(int,int)",
    "int riskiest()", "int arrives()", "int flown(boolean)", "int bounds(int,int,int)", "int load(int,int)", "int adopt()",
    "int payload(int)", "int power(int)", "boolean undo()", "int weak(int)", "int size(int)", "int trouble()"};

  private static boolean wrong = false;

  private static void wrong(String what) {
    wrong = true;
    System.out.println(what);
  }

  private static String told(Method m) {
    StringBuilder b = new StringBuilder(m.getReturnType().getName() + " " + m.getName() + "(");
    for (Class<?> p : m.getParameterTypes()) b.append(b.charAt(b.length() - 1) == '(' ? "" : ",").append(p.getName());
    return b.append(")").toString();
  }

  private static boolean hidden(Member m) { return Modifier.isPrivate(m.getModifiers()) || m.isSynthetic(); }

  public static void main(String[] args) throws Exception {
    Class<?> c = StageRatios.class;
    TreeSet<String> face = new TreeSet<>(Arrays.asList(FACE));
    TreeSet<String> names = new TreeSet<>();
    TreeSet<String> seen = new TreeSet<>();
    for (String f : FACE) names.add(f.substring(f.indexOf(' ') + 1, f.indexOf('(')));
    for (Method m : c.getDeclaredMethods()) {
      if (Modifier.isPublic(m.getModifiers()) && !Modifier.isStatic(m.getModifiers())) seen.add(told(m));
      else if (!hidden(m)) wrong("can be seen: " + m);
      else if (names.contains(m.getName())) wrong("a private method with a public name: " + m);
    }
    if (!seen.equals(face)) wrong("the face is " + seen);
    for (Field f : c.getDeclaredFields())
      if (!f.getName().equals("NONE") && !hidden(f)) wrong("can be seen: " + f);
    Field none = c.getDeclaredField("NONE");
    int all = Modifier.PUBLIC | Modifier.STATIC | Modifier.FINAL;
    if ((none.getModifiers() & all) != all || none.getType() != int.class || none.getInt(null) != -1) wrong("NONE");
    Constructor<?>[] made = c.getDeclaredConstructors();
    if (made.length != 1 || made[0].getParameterCount() != 0 || !Modifier.isPublic(made[0].getModifiers())) wrong("the constructors");
    if (!Modifier.isFinal(c.getModifiers()) || !Modifier.isPublic(c.getModifiers())) wrong("the class is not public and final");
    if (c.getDeclaredClasses().length > 11) wrong("too many classes inside");
    for (Class<?> in : c.getDeclaredClasses()) {
      if (Modifier.isPublic(in.getModifiers()) || !Modifier.isStatic(in.getModifiers())) wrong("inside: " + in);
      int fields = 0;
      for (Field f : in.getDeclaredFields()) if (!Modifier.isStatic(f.getModifiers())) fields++;
      if (fields > 20) wrong("too many fields: " + in);
      for (Method m : in.getDeclaredMethods()) {
        if (m.getParameterCount() > 7) wrong("too many parameters: " + m);
        if (names.contains(m.getName())) wrong("a method inside with a public name: " + m);
      }
    }
    System.out.println(wrong ? "the face is not as due" : "the face is as due");
    if (wrong) System.exit(1);
  }
}
