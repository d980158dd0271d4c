import java.lang.reflect.Constructor;
import java.lang.reflect.Field;
import java.lang.reflect.Method;
import java.lang.reflect.Modifier;
import java.util.Arrays;
import java.util.HashSet;
import java.util.Set;
import java.util.TreeSet;

/** The constants, the constructor and the methods of the face: these, with their types and exceptions, and no others. */
public final class FaceTest {
    private static final String[] METHODS = {
        "boolean near(int, int) IndexOutOfBoundsException IllegalArgumentException",
        "boolean alike(int, int) IndexOutOfBoundsException IllegalArgumentException",
        "int rule(int, int, int) IndexOutOfBoundsException IllegalArgumentException",
        "int stop(int, int) IndexOutOfBoundsException IllegalStateException",
        "int threshold(int) IllegalArgumentException",
        "int find(int, int, int, int, int, int, int)"
            + " IndexOutOfBoundsException IllegalArgumentException IllegalStateException",
        "int see(int, int) IndexOutOfBoundsException IllegalArgumentException IllegalStateException",
        "int send(int, int) IndexOutOfBoundsException IllegalStateException",
        "int lose(int) IndexOutOfBoundsException",
        "int turnUp(int, int) IndexOutOfBoundsException IllegalStateException",
        "boolean hold(int, boolean) IndexOutOfBoundsException IllegalStateException",
        "int claim(int, int, int, int, int) IndexOutOfBoundsException IllegalArgumentException IllegalStateException",
        "int say(int, int) IndexOutOfBoundsException IllegalArgumentException IllegalStateException",
        "int tell(int, int) IndexOutOfBoundsException IllegalArgumentException IllegalStateException",
        "int withdraw(int) IndexOutOfBoundsException IllegalStateException",
        "int release(int, int) IndexOutOfBoundsException IllegalStateException",
        "int extend(int, int) IndexOutOfBoundsException IllegalArgumentException IllegalStateException",
        "int sell(int, int) IndexOutOfBoundsException IllegalArgumentException IllegalStateException",
        "int destroy(int) IndexOutOfBoundsException IllegalStateException",
        "int payOut(int, int) IndexOutOfBoundsException IllegalStateException",
        "int pass(int) IllegalArgumentException IllegalStateException",
        "int today()",
        "int fit(int, int) IndexOutOfBoundsException",
        "int candidate(int, int) IndexOutOfBoundsException",
        "int question(int) IndexOutOfBoundsException",
        "boolean isProven(int, int) IndexOutOfBoundsException",
        "boolean isDue(int) IndexOutOfBoundsException",
        "int ofFind(int, int) IndexOutOfBoundsException IllegalArgumentException",
        "int hand(int, int, boolean) IndexOutOfBoundsException",
        "int ofClaim(int, int) IndexOutOfBoundsException IllegalArgumentException",
        "int money(int) IllegalArgumentException",
        "int audit(int) IndexOutOfBoundsException",
    };
    private static final String CONSTANTS = "[CLOSED=2, DESTROYED=5, ERASED=3, KEPT=0, MISSING=2, NONE=-1, ON_THE_WAY=1, "
        + "OPEN=0, PAID_OUT=6, RELEASED=3, SERVED=1, SOLD=4]";

    public static void main(String[] args) throws IllegalAccessException {
        Checks c = new Checks();
        c.promise("the public face");
        c.isText("the constants", CONSTANTS, constants().toString());
        c.isText("the methods", new TreeSet<>(Arrays.asList(METHODS)).toString(), methods().toString());
        c.is("public final class", Modifier.PUBLIC | Modifier.FINAL, Lostroom.class.getModifiers());
        Constructor<?>[] constructors = Lostroom.class.getDeclaredConstructors();
        c.is("constructors", 1, constructors.length);
        c.is("parameters of the constructor", 0, constructors[0].getParameterCount());
        c.is("the constructor is public", true, Modifier.isPublic(constructors[0].getModifiers()));
        checkNamesOfPrivateMethods(c);
        checkNewObject(c);
        c.end();
    }

    private static Set<String> constants() throws IllegalAccessException {
        Set<String> found = new TreeSet<>();
        for (Field field : Lostroom.class.getDeclaredFields()) {
            if (Modifier.isPrivate(field.getModifiers())) continue;
            boolean isConstant = field.getModifiers() == (Modifier.PUBLIC | Modifier.STATIC | Modifier.FINAL);
            found.add(isConstant ? field.getName() + "=" + field.getInt(null) : field.toString());
        }
        return found;
    }

    private static Set<String> methods() {
        Set<String> found = new TreeSet<>();
        for (Method method : Lostroom.class.getDeclaredMethods()) {
            if (!Modifier.isPrivate(method.getModifiers())) found.add(described(method));
        }
        return found;
    }

    private static String described(Method method) {
        StringBuilder text = new StringBuilder();
        if (method.getModifiers() != Modifier.PUBLIC) text.append(Modifier.toString(method.getModifiers())).append(' ');
        text.append(method.getReturnType()).append(' ').append(method.getName()).append('(');
        String comma = "";
        for (Class<?> type : method.getParameterTypes()) {
            text.append(comma).append(type);
            comma = ", ";
        }
        text.append(')');
        for (Class<?> type : method.getExceptionTypes()) text.append(' ').append(type.getSimpleName());
        return text.toString();
    }

    private static void checkNamesOfPrivateMethods(Checks c) {
        Set<String> names = new HashSet<>();
        for (Method method : Lostroom.class.getDeclaredMethods()) {
            if (Modifier.isPublic(method.getModifiers())) names.add(method.getName());
        }
        for (Method method : Lostroom.class.getDeclaredMethods()) {
            if (!Modifier.isPublic(method.getModifiers())) {
                c.is("a private method is called " + method.getName(), false, names.contains(method.getName()));
            }
        }
    }

    private static void checkNewObject(Checks c) {
        c.promise("promise 1");
        c.isText("a new object", "day 0, money 0 0 0, rooms 0 0 0 0 0 0", Picture.of(new Lostroom()));
        for (int train = 0; train < 4; train++) c.is("its first stop", 1, new Lostroom().stop(train, 0));
        Lostroom one = new Lostroom();
        one.find(0, 0, 0, 0, 0, 0, 0);
        one.pass(1);
        Lostroom other = new Lostroom();
        c.is("objects share no day", 0, other.today());
        c.is("objects share no finds", 0, Picture.countFinds(other));
        for (int kind = 0; kind < 8; kind++) c.is("the term of a kind at first", 60, other.rule(kind, 1, 0));
        c.is("the threshold at first", 50, other.threshold(1));
    }
}
