import java.lang.reflect.Constructor;
import java.lang.reflect.Field;
import java.lang.reflect.Method;
import java.lang.reflect.Modifier;
import java.util.TreeSet;

/** The class shows just what the document's "The public face" shows. */
public final class FaceTest {
    private static final String[] FACE = {
        "int addHand(int,int) IllegalArgumentException,IllegalStateException",
        "int stand(int) IndexOutOfBoundsException,UnsupportedOperationException,IllegalStateException",
        "int leave(int) IndexOutOfBoundsException,UnsupportedOperationException",
        "int placeOf(int) IndexOutOfBoundsException",
        "int errorOf(int) IndexOutOfBoundsException,NoSuchElementException",
        "int strokeOf(int) IndexOutOfBoundsException,NoSuchElementException",
        "int fatigue(int) IndexOutOfBoundsException",
        "int hurt(int) IndexOutOfBoundsException",
        "int lost(int) IndexOutOfBoundsException",
        "int practise(int) IllegalArgumentException,UnsupportedOperationException",
        "int addLot(int,int,int) IllegalArgumentException,IllegalStateException",
        "int ears(int) IndexOutOfBoundsException",
        "int heapOf(int,char) IndexOutOfBoundsException,IllegalArgumentException",
        "int thresh(int,char,int) IndexOutOfBoundsException,IllegalArgumentException,UnsupportedOperationException",
        "int winnow(int,int) IndexOutOfBoundsException,IllegalArgumentException",
        "int clear(int) IndexOutOfBoundsException,UnsupportedOperationException",
        "int hireDrum(int,int) IllegalArgumentException,UnsupportedOperationException",
        "int testBoiler() ",
        "int fire(int,int) IndexOutOfBoundsException,IllegalArgumentException,UnsupportedOperationException",
        "int carried() ",
        "int cleanDrum() ",
        "int setZ(int) IllegalArgumentException",
        "int setBushel(int,int) IndexOutOfBoundsException,IllegalArgumentException",
        "int measure(int,int,int,char,int) "
            + "IndexOutOfBoundsException,IllegalArgumentException,UnsupportedOperationException",
        "int binOf(int,char) IndexOutOfBoundsException,IllegalArgumentException",
        "boolean judge(int) IllegalArgumentException",
        "int hire(int,char,int) IndexOutOfBoundsException,IllegalArgumentException",
        "int owed(int) IndexOutOfBoundsException",
        "int pay(int) IndexOutOfBoundsException",
        "int addRats(int) IllegalArgumentException",
        "int addOwl() IllegalStateException",
        "int rats() ",
        "int pass(int) IllegalArgumentException,IllegalStateException",
        "int grind(int,int) IndexOutOfBoundsException,IllegalArgumentException,UnsupportedOperationException",
        "int flour() ",
        "int bake(int,int) IllegalArgumentException,UnsupportedOperationException",
        "int sellSeed(int,int,int) IndexOutOfBoundsException,IllegalArgumentException,UnsupportedOperationException",
        "int money() ",
        "int account(char) IllegalArgumentException",
        "long checksum() ",
        "float bruisedShare() ArithmeticException",
        "double meanFatigue() ArithmeticException",
        "boolean isSound() ",
    };

    private FaceTest() {
    }

    public static void main(String[] args) {
        Class<?> type = ThresholdRow.class;
        Check.same("the class is public and final", type.getModifiers(), Modifier.PUBLIC | Modifier.FINAL);
        TreeSet<String> due = new TreeSet<String>();
        for (String method : FACE) {
            due.add(method);
        }
        TreeSet<String> got = new TreeSet<String>();
        for (Method method : type.getDeclaredMethods()) {
            if (!Modifier.isPrivate(method.getModifiers()) && !method.isSynthetic()) {
                got.add(describe(method));
            }
        }
        Check.same("methods", String.join("\n", got), String.join("\n", due));
        for (Field field : type.getDeclaredFields()) {
            Check.same(field.getName() + " is private", Modifier.isPrivate(field.getModifiers()), true);
        }
        Constructor<?>[] makers = type.getDeclaredConstructors();
        Check.same("constructors", makers.length, 1);
        Check.same("its parameters", makers[0].getParameterCount(), 0);
        Check.same("it is public", Modifier.isPublic(makers[0].getModifiers()), true);
        Check.finish("FaceTest");
    }

    private static String describe(Method method) {
        return method.getReturnType().getSimpleName() + " " + method.getName() + "("
            + names(method.getParameterTypes()) + ") " + names(method.getExceptionTypes());
    }

    private static String names(Class<?>[] types) {
        StringBuilder text = new StringBuilder();
        for (Class<?> type : types) {
            text.append(text.length() == 0 ? "" : ",").append(type.getSimpleName());
        }
        return text.toString();
    }
}
