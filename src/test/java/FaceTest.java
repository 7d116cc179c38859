import java.lang.reflect.Constructor;
import java.lang.reflect.Field;
import java.lang.reflect.Member;
import java.lang.reflect.Method;
import java.lang.reflect.Modifier;
import java.util.Arrays;
import java.util.Set;
import java.util.TreeSet;

/** The public face: the class, its constants, and its methods with their throws clauses, and nothing else. */
public final class FaceTest {
  private static final String[] METHODS = {
    "int tower(int,int) IllegalArgumentException IllegalStateException",
    "int hill(int,int,int) IndexOutOfBoundsException IllegalArgumentException IllegalStateException",
    "int air(int,int) IndexOutOfBoundsException IllegalArgumentException",
    "int tire(int,int) IndexOutOfBoundsException IllegalArgumentException",
    "int seed(int) IllegalArgumentException",
    "int write(int,int,int,int) IndexOutOfBoundsException IllegalArgumentException IllegalStateException",
    "int type(int) IllegalArgumentException IllegalStateException",
    "int clear()",
    "int send(boolean,int,boolean) IndexOutOfBoundsException IllegalStateException",
    "int mark(int,boolean,boolean) IndexOutOfBoundsException IllegalStateException",
    "int spy(int) IndexOutOfBoundsException IllegalStateException",
    "int pass(int) IllegalArgumentException",
    "int minute()",
    "int towers()",
    "boolean sees(int) IndexOutOfBoundsException",
    "int shows(int,boolean) IndexOutOfBoundsException",
    "int keeps(int,boolean,int) IndexOutOfBoundsException",
    "int logs(int,boolean) IndexOutOfBoundsException",
    "int log(int,boolean,int,int) IndexOutOfBoundsException IllegalArgumentException",
    "int differs(int,int,boolean) IndexOutOfBoundsException",
    "int came(boolean)",
    "int told(boolean,int,int) IndexOutOfBoundsException IllegalArgumentException",
    "int phrase(boolean,int,int,int) IndexOutOfBoundsException",
    "int open(boolean)",
    "int seen(int) IndexOutOfBoundsException",
    "int tries(int,int) IndexOutOfBoundsException",
    "int comes(int) IllegalArgumentException",
    "int comesAnew(int) IllegalArgumentException",
  };

  public static void main(String[] args) {
    constants();
    methods();
    nothingElse();
    Checks.finish("FaceTest");
  }

  private static void constants() {
    Checks.equal("BEGIN", ArmtowerLine.BEGIN, 92);
    Checks.equal("END", ArmtowerLine.END, 93);
    Checks.equal("ERROR", ArmtowerLine.ERROR, 94);
    Checks.equal("WAIT", ArmtowerLine.WAIT, 95);
    Checks.equal("URGENT", ArmtowerLine.URGENT, 96);
  }

  private static void methods() {
    Set<String> due = new TreeSet<>(Arrays.asList(METHODS));
    Set<String> got = new TreeSet<>();
    for (Method method : ArmtowerLine.class.getDeclaredMethods()) {
      if (Modifier.isPublic(method.getModifiers())) {
        got.add(describe(method));
      }
    }
    if (!due.equals(got)) {
      Checks.fail("the public methods are " + got + ", due are " + due);
    }
  }

  private static String describe(Method method) {
    StringBuilder text = new StringBuilder();
    text.append(method.getReturnType()).append(' ').append(method.getName()).append('(');
    for (int i = 0; i < method.getParameterCount(); i++) {
      text.append(i == 0 ? "" : ",").append(method.getParameterTypes()[i]);
    }
    text.append(')');
    for (Class<?> thrown : method.getExceptionTypes()) {
      text.append(' ').append(thrown.getSimpleName());
    }
    return text.toString();
  }

  private static void nothingElse() {
    int modifiers = ArmtowerLine.class.getModifiers();
    Checks.equal("the class is public and final", Modifier.isPublic(modifiers) && Modifier.isFinal(modifiers), true);
    Set<String> names = new TreeSet<>();
    for (Method method : ArmtowerLine.class.getDeclaredMethods()) {
      if (Modifier.isPublic(method.getModifiers())) {
        names.add(method.getName());
      }
    }
    for (Method method : ArmtowerLine.class.getDeclaredMethods()) {
      if (!Modifier.isPublic(method.getModifiers())) {
        isPrivate(method);
        Checks.equal(method.getName() + " bears a public name", names.contains(method.getName()), false);
      }
    }
    Set<String> constants = Set.of("BEGIN", "END", "ERROR", "WAIT", "URGENT");
    for (Field field : ArmtowerLine.class.getDeclaredFields()) {
      if (!constants.contains(field.getName())) {
        isPrivate(field);
      }
    }
    Constructor<?>[] constructors = ArmtowerLine.class.getDeclaredConstructors();
    Checks.equal("how many constructors", constructors.length, 1);
    Checks.equal("the constructor's parameters", constructors[0].getParameterCount(), 0);
    for (Class<?> inside : ArmtowerLine.class.getDeclaredClasses()) {
      Checks.equal(inside.getName() + " is private", Modifier.isPrivate(inside.getModifiers()), true);
      for (Method method : inside.getDeclaredMethods()) {
        Checks.equal(method + " bears a public name", names.contains(method.getName()), false);
      }
    }
  }

  private static void isPrivate(Member member) {
    Checks.equal(member.getName() + " is private", Modifier.isPrivate(member.getModifiers()), true);
  }
}
