import java.lang.reflect.Constructor;
import java.lang.reflect.Field;
import java.lang.reflect.Method;
import java.lang.reflect.Modifier;
import java.util.Arrays;
import java.util.Set;
import java.util.TreeSet;

/** The document's face and the rules of LANGUAGE.md that can be seen from the compiled class. */
public final class LanguageTest {
  private static final String[] FACE = {
    "int wall(int, int, int, int) throws IllegalArgumentException IllegalStateException",
    "int instr(int, int, int, int, int) throws IllegalArgumentException IllegalStateException",
    "int spawn(double, double, double) throws IllegalArgumentException IllegalStateException",
    "int remove(int) throws NoSuchElementException",
    "double set(int, int, double) throws NoSuchElementException IllegalArgumentException",
    "double get(int, int) throws NoSuchElementException IllegalArgumentException",
    "int setGlobal(int, int) throws IllegalArgumentException",
    "int global(int) throws IllegalArgumentException",
    "int run(int, int, int) throws IllegalArgumentException",
    "int tick(int) throws IllegalArgumentException",
    "int changes()",
    "int change(int) throws NoSuchElementException",
    "int message()",
    "int count(int) throws IllegalArgumentException"
  };

  public static void main(String[] args) {
    theFace();
    ruleOfClass(QuakeServer.class);
    for (Class<?> inside : QuakeServer.class.getDeclaredClasses()) {
      Check.due(inside + " is static", 1, Modifier.isStatic(inside.getModifiers()) ? 1 : 0);
      ruleOfClass(inside);
    }
    Check.end();
  }

  private static void theFace() {
    Class<?> face = QuakeServer.class;
    Check.due("public and final", Modifier.PUBLIC | Modifier.FINAL, face.getModifiers());
    Set<String> seen = new TreeSet<>();
    Set<String> hidden = new TreeSet<>();
    for (Method method : face.getDeclaredMethods()) {
      if (Modifier.isPrivate(method.getModifiers())) {
        hidden.add(method.getName());
      } else {
        seen.add(told(method));
      }
    }
    if (!seen.equals(new TreeSet<>(Arrays.asList(FACE)))) {
      Check.fail("the face is " + seen);
    }
    for (String call : FACE) {
      String name = call.substring(call.indexOf(' ') + 1, call.indexOf('('));
      Check.due("a private method is named " + name, 0, hidden.contains(name) ? 1 : 0);
    }
    Constructor<?>[] constructors = face.getDeclaredConstructors();
    Check.due("constructors", 1, constructors.length);
    Check.due("its parameters", 0, constructors[0].getParameterCount());
    Check.due("it is public", Modifier.PUBLIC, constructors[0].getModifiers());
    for (Field field : face.getDeclaredFields()) {
      Check.due(field + " is private", 1, Modifier.isPrivate(field.getModifiers()) ? 1 : 0);
    }
  }

  private static String told(Method method) {
    StringBuilder text = new StringBuilder();
    text.append(method.getReturnType()).append(' ').append(method.getName()).append('(');
    for (int i = 0; i < method.getParameterCount(); i++) {
      text.append(i == 0 ? "" : ", ").append(method.getParameterTypes()[i]);
    }
    text.append(')');
    for (int i = 0; i < method.getExceptionTypes().length; i++) {
      text.append(i == 0 ? " throws " : " ").append(method.getExceptionTypes()[i].getSimpleName());
    }
    return text.toString();
  }

  private static void ruleOfClass(Class<?> some) {
    int ownFields = 0;
    for (Field field : some.getDeclaredFields()) {
      if (Modifier.isStatic(field.getModifiers())) {
        Check.due(field + " is final", 1, Modifier.isFinal(field.getModifiers()) ? 1 : 0);
        Check.due(field + " is an int", 1, field.getType() == int.class ? 1 : 0);
      } else {
        ownFields++;
      }
    }
    Check.due(some + " has few fields", 1, ownFields <= 20 ? 1 : 0);
    for (Method method : some.getDeclaredMethods()) {
      Check.due(method + " has few parameters", 1, method.getParameterCount() <= 7 ? 1 : 0);
      Check.due(method + " is no lambda", 0, method.isSynthetic() ? 1 : 0);
    }
  }
}
