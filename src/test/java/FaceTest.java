import java.lang.reflect.Constructor;
import java.lang.reflect.Field;
import java.lang.reflect.Method;
import java.lang.reflect.Modifier;
import java.util.Arrays;
import java.util.Set;
import java.util.TreeSet;

// The public face is the document's; every other member is private.
public final class FaceTest {
  private static final String[] FACE = {
    "public ExpectRows()",
    "public int ExpectRows.rule(int,int,int,long,boolean)",
    "public int ExpectRows.event(int,int,int,int,long)",
    "public int ExpectRows.tick(long)",
    "public int ExpectRows.alarm(int,int)",
    "public int ExpectRows.state(int)",
    "public int ExpectRows.holiday(long)",
    "public long ExpectRows.share(int,int) throws java.lang.ArithmeticException",
    "public long ExpectRows.percentile(int,int)",
    "public int ExpectRows.found(int,long)",
    "public int ExpectRows.cluster(int,int)",
    "public int ExpectRows.failing(int)",
    "public static final int ExpectRows.UNKNOWN",
    "public static final int ExpectRows.OUTSIDE",
    "public static final int ExpectRows.ROOM",
  };

  private static Set<String> visibleMembers() {
    Set<String> seen = new TreeSet<>();
    for (Constructor<?> c : ExpectRows.class.getDeclaredConstructors())
      if (!Modifier.isPrivate(c.getModifiers())) seen.add(c.toString());
    for (Method m : ExpectRows.class.getDeclaredMethods())
      if (!Modifier.isPrivate(m.getModifiers())) seen.add(m.toString());
    for (Field f : ExpectRows.class.getDeclaredFields())
      if (!Modifier.isPrivate(f.getModifiers())) seen.add(f.toString());
    return seen;
  }

  private static boolean sharesNames() {
    Set<String> open = new TreeSet<>();
    for (Method m : ExpectRows.class.getDeclaredMethods())
      if (Modifier.isPublic(m.getModifiers())) open.add(m.getName());
    for (Method m : ExpectRows.class.getDeclaredMethods())
      if (Modifier.isPrivate(m.getModifiers()) && open.contains(m.getName())) return true;
    for (Class<?> inside : ExpectRows.class.getDeclaredClasses())
      for (Method m : inside.getDeclaredMethods())
        if (Modifier.isPrivate(m.getModifiers()) && open.contains(m.getName())) return true;
    return false;
  }

  private static boolean classesInsideAreOpen() {
    for (Class<?> inside : ExpectRows.class.getDeclaredClasses()) {
      int modifiers = inside.getModifiers();
      if (!Modifier.isStatic(modifiers) || Modifier.isPublic(modifiers) || Modifier.isProtected(modifiers)) return true;
    }
    return false;
  }

  /** State that two objects share would make an answer depend on more than an object's own calls. */
  private static boolean hasSharedState() {
    for (Field f : ExpectRows.class.getDeclaredFields())
      if (Modifier.isStatic(f.getModifiers()) && !Modifier.isFinal(f.getModifiers())) return true;
    for (Class<?> inside : ExpectRows.class.getDeclaredClasses())
      for (Field f : inside.getDeclaredFields())
        if (Modifier.isStatic(f.getModifiers()) && !Modifier.isFinal(f.getModifiers())) return true;
    return false;
  }

  public static void main(String[] args) {
    boolean wrong = false;
    Set<String> want = new TreeSet<>(Arrays.asList(FACE));
    Set<String> got = visibleMembers();
    if (!got.equals(want)) {
      wrong = true;
      System.out.println("the face is " + got + ", due is " + want);
    }
    int modifiers = ExpectRows.class.getModifiers();
    if (!Modifier.isPublic(modifiers) || !Modifier.isFinal(modifiers)) {
      wrong = true;
      System.out.println("the class is not public and final");
    }
    if (sharesNames()) {
      wrong = true;
      System.out.println("a private method bears the name of a public one");
    }
    if (classesInsideAreOpen()) {
      wrong = true;
      System.out.println("a class inside is not static, or can be seen from outside the package");
    }
    if (hasSharedState()) {
      wrong = true;
      System.out.println("a static field is not final");
    }
    System.out.println(wrong ? "the face is not as due" : "the face is as due");
    if (wrong) System.exit(1);
  }
}
