import java.lang.reflect.Constructor;
import java.lang.reflect.Field;
import java.lang.reflect.Method;
import java.lang.reflect.Modifier;
import java.util.Set;
import java.util.TreeSet;

/** The public face: what the document lists, and nothing else that is not private. */
public final class FaceTest {
  private static final Set<String> METHODS = Set.of(
      "int setMechanism(int,int)", "int setPosition(int,int)", "int setSilence(int,int,int)",
      "int wind(int,int)", "int run(int)", "int setHands(int)", "int trip(int)",
      "int nextDue(int)", "int lag(int)", "int blowsToCorrect(int)", "int handsToCorrect(int)",
      "int minutesToMiss(int)", "int minute()", "int position(int)", "int weight(int)",
      "int sounded(int)", "int missed(int)", "int isSilent(int)", "int strikeMinute(int)",
      "int strikeTrain(int)", "int strikeBlows(int)", "int undo()", "int errorCount(int)",
      "long digest()");
  private static final Set<String> CONSTANTS =
      Set.of("OUT_OF_RANGE", "NOT_POSSIBLE", "NOTHING_SAVED", "NONE");
  private static final Due DUE = new Due();

  public static void main(String[] args) {
    Class<?> c = StrikingWork.class;
    DUE.is("modifiers of the class", c.getModifiers(), Modifier.PUBLIC | Modifier.FINAL);
    methods(c);
    constants(c);
    constructors(c);
    for (Class<?> inside : c.getDeclaredClasses()) {
      if (!Modifier.isStatic(inside.getModifiers()) || Modifier.isPublic(inside.getModifiers())) {
        DUE.fault("class inside is public or not static: " + inside.getName());
      }
    }
    DUE.end("FaceTest");
  }

  private static void methods(Class<?> c) {
    Set<String> seen = new TreeSet<>();
    for (Method m : c.getDeclaredMethods()) {
      if (Modifier.isPrivate(m.getModifiers())) {
        continue;
      }
      DUE.is("modifiers of " + m.getName(), m.getModifiers(), Modifier.PUBLIC);
      seen.add(signature(m));
    }
    same("methods", seen, METHODS);
  }

  private static String signature(Method m) {
    StringBuilder s = new StringBuilder(m.getReturnType() + " " + m.getName() + "(");
    for (Class<?> p : m.getParameterTypes()) {
      s.append(s.charAt(s.length() - 1) == '(' ? "" : ",").append(p);
    }
    return s.append(")").toString();
  }

  private static void constants(Class<?> c) {
    Set<String> seen = new TreeSet<>();
    for (Field f : c.getDeclaredFields()) {
      if (Modifier.isPrivate(f.getModifiers())) {
        continue;
      }
      DUE.is("modifiers of " + f.getName(), f.getModifiers(),
          Modifier.PUBLIC | Modifier.STATIC | Modifier.FINAL);
      seen.add(f.getName());
    }
    same("constants", seen, CONSTANTS);
    DUE.is("OUT_OF_RANGE", StrikingWork.OUT_OF_RANGE, -2);
    DUE.is("NOT_POSSIBLE", StrikingWork.NOT_POSSIBLE, -3);
    DUE.is("NOTHING_SAVED", StrikingWork.NOTHING_SAVED, -4);
    DUE.is("NONE", StrikingWork.NONE, -1);
  }

  private static void constructors(Class<?> c) {
    Constructor<?>[] all = c.getDeclaredConstructors();
    DUE.is("constructors", all.length, 1);
    DUE.is("parameters of the constructor", all[0].getParameterCount(), 0);
    DUE.is("modifiers of the constructor", all[0].getModifiers(), Modifier.PUBLIC);
  }

  private static void same(String what, Set<String> seen, Set<String> want) {
    if (!seen.equals(new TreeSet<>(want))) {
      DUE.fault(what + " are " + seen + ", due are " + new TreeSet<>(want));
    }
  }
}
