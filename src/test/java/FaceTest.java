import java.lang.reflect.Constructor;
import java.lang.reflect.Field;
import java.lang.reflect.Method;
import java.lang.reflect.Modifier;
import java.util.TreeSet;

/** The public face: every constant, constructor and method of the document, and no other. */
final class FaceTest {
  private static final String[] FACE = {
    "int row(int,int,int)", "int set(int,int,long)", "int copy(int,int,int,int,int)", "long element(int,int)",
    "int holds(int)", "int show(int,int)", "int says(int,int)", "int slips(int)", "int rule(int)",
    "int price(int,int)", "int thing(int,int,int)", "int buyer(int)", "int likes(int,int,int)",
    "int purse(int,int)", "int feed(int)", "int wipe()", "int stall()", "int thingOf(int,int)",
    "int buyerOf(int,int)", "int slipOf(int,int)", "int drawable()", "int wins(int)", "int worth(int)",
    "int plan(int)", "int till(int)", "int atOnce(int)", "int mean(int,int)", "int all(int)",
    "int takings(int)", "int bestPrice()", "int full()", "int guess(int,int)", "int suspect(int,int)",
    "int sure(int,int)", "int left(int)", "int judge(int,int)", "int won(int,int)", "int booked(int,int,int)",
    "int chain(int)", "int dearest(int)", "int fondest(int)", "int envy()", "int poorest()", "int oldest()",
    "int go(int)", "int five(int)", "int plays(int)", "int fete(int)", "int seed(int)", "int image()",
    "int back()", "int status(int)",
  };

  private FaceTest() {
  }

  private static String told(Method method) {
    StringBuilder text = new StringBuilder();
    text.append(method.getReturnType()).append(' ').append(method.getName()).append('(');
    for (Class<?> type : method.getParameterTypes()) {
      text.append(text.charAt(text.length() - 1) == '(' ? "" : ",").append(type);
    }
    return text.append(')').toString();
  }

  public static void main(String[] args) {
    Class<?> face = EndsInFive.class;
    Due.is("modifiers", face.getModifiers(), Modifier.PUBLIC | Modifier.FINAL);
    TreeSet<String> open = new TreeSet<>();
    TreeSet<String> names = new TreeSet<>();
    TreeSet<String> hidden = new TreeSet<>();
    for (Method method : face.getDeclaredMethods()) {
      if (Modifier.isPrivate(method.getModifiers())) {
        hidden.add(method.getName());
      } else {
        Due.is(told(method) + " is public and of objects", method.getModifiers(), Modifier.PUBLIC);
        open.add(told(method));
        names.add(method.getName());
      }
    }
    TreeSet<String> due = new TreeSet<>(java.util.Arrays.asList(FACE));
    Due.is("the methods", open.toString(), due.toString());
    for (Class<?> inner : face.getDeclaredClasses()) {
      Due.is(inner + " is private or static", Modifier.isPrivate(inner.getModifiers())
          && Modifier.isStatic(inner.getModifiers()) ? 1 : 0, 1);
      for (Method method : inner.getDeclaredMethods()) {
        hidden.add(method.getName());
      }
    }
    names.retainAll(hidden);
    Due.is("private methods with a public one's name", names.toString(), "[]");
    int constants = 0;
    for (Field field : face.getDeclaredFields()) {
      if (!Modifier.isPrivate(field.getModifiers())) {
        Due.is("the field", field.toString(), "public static final int EndsInFive.NONE");
        constants++;
      }
    }
    Due.is("open fields", constants, 1);
    Due.is("NONE", EndsInFive.NONE, -1);
    Constructor<?>[] makers = face.getDeclaredConstructors();
    Due.is("constructors", makers.length, 1);
    Due.is("the constructor", makers[0].toString(), "public EndsInFive()");
    Due.end();
  }
}
