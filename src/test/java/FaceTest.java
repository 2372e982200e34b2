import java.lang.reflect.Constructor;
import java.lang.reflect.Field;
import java.lang.reflect.Method;
import java.lang.reflect.Modifier;
import java.util.ArrayList;
import java.util.Arrays;
import java.util.Collections;
import java.util.List;

/** The face: just the constants, the constructor and the methods of the document, with their exceptions. */
public final class FaceTest {
    private static final String[] METHODS = {
        "int append(int,int,int,int,int) IllegalStateException",
        "int load(int) IllegalArgumentException",
        "int errorPosition()",
        "int count(int) IllegalArgumentException",
        "int place(int,int) IndexOutOfBoundsException",
        "int neighbour(int,int) IndexOutOfBoundsException IllegalArgumentException",
        "int stone(int) IndexOutOfBoundsException",
        "int chain(int,int) IndexOutOfBoundsException IllegalArgumentException NoSuchElementException",
        "int freedom(int,int) IndexOutOfBoundsException",
        "int chains(int,int) IllegalArgumentException",
        "int weakest(int) IllegalArgumentException NoSuchElementException",
        "int reason(int,int) IndexOutOfBoundsException IllegalArgumentException",
        "int play(int) IndexOutOfBoundsException IllegalStateException",
        "int pass() IllegalStateException",
        "int move(int,int,int) IndexOutOfBoundsException IllegalArgumentException IllegalStateException",
        "int moves(int) IllegalArgumentException",
        "int greediest(int) IllegalArgumentException NoSuchElementException",
        "int setStone(int,int) IndexOutOfBoundsException IllegalArgumentException IllegalStateException",
        "int setTurn(int) IllegalArgumentException",
        "int setRule(int) IllegalArgumentException",
        "int setBonus(int) IllegalArgumentException",
        "int pools(int) IllegalArgumentException",
        "int pool(int,int) IndexOutOfBoundsException IllegalArgumentException NoSuchElementException",
        "boolean isSharedEye(int) IndexOutOfBoundsException",
        "boolean isStandoff(int) IndexOutOfBoundsException",
        "boolean isAlive(int) IndexOutOfBoundsException",
        "int alive(int) IllegalArgumentException",
        "int caughtBy(int) IndexOutOfBoundsException NoSuchElementException",
        "int area(int) IllegalArgumentException",
        "int score()",
        "float share(int) IllegalArgumentException",
        "int writeRing(int) IndexOutOfBoundsException",
        "int writtenByte(int) IndexOutOfBoundsException",
        "int undo() IllegalStateException",
        "int save(int) IndexOutOfBoundsException",
        "int restore(int) IndexOutOfBoundsException IllegalStateException",
        "int differing(int) IndexOutOfBoundsException",
    };

    public static void main(String[] args) {
        constants();
        constructor();
        methods();
        Due.end();
    }

    private static void constants() {
        Due.gives("NONE", -1, () -> RingStones.NONE);
        Due.gives("SYNTAX_ERROR", -2, () -> RingStones.SYNTAX_ERROR);
        Due.gives("VALUE_ERROR", -3, () -> RingStones.VALUE_ERROR);
        List<String> open = new ArrayList<>();
        for (Field field : RingStones.class.getDeclaredFields()) {
            if (!Modifier.isPrivate(field.getModifiers())) {
                open.add(Modifier.toString(field.getModifiers()) + " " + field.getName());
            }
        }
        Collections.sort(open);
        Due.gives("the open fields", Arrays.asList("public static final NONE", "public static final SYNTAX_ERROR",
            "public static final VALUE_ERROR"), () -> open);
    }

    private static void constructor() {
        Constructor<?>[] made = RingStones.class.getDeclaredConstructors();
        Due.gives("the number of constructors", 1, () -> made.length);
        Due.gives("the constructor", "public RingStones()", () -> made[0].toString());
        Due.gives("the class", "public final", () -> Modifier.toString(RingStones.class.getModifiers()));
    }

    private static void methods() {
        List<String> open = new ArrayList<>();
        List<String> hidden = new ArrayList<>();
        for (Method method : RingStones.class.getDeclaredMethods()) {
            if (Modifier.isPrivate(method.getModifiers())) {
                hidden.add(method.getName());
            } else {
                Due.gives(method.getName(), "public", () -> Modifier.toString(method.getModifiers()));
                open.add(signature(method));
            }
        }
        Collections.sort(open);
        List<String> want = new ArrayList<>(Arrays.asList(METHODS));
        Collections.sort(want);
        Due.gives("the open methods", want, () -> open);
        for (Class<?> inside : RingStones.class.getDeclaredClasses()) {
            Due.holds(inside + " is static", Modifier.isStatic(inside.getModifiers()));
            for (Method method : inside.getDeclaredMethods()) {
                hidden.add(method.getName());
            }
        }
        for (String name : hidden) {
            Due.holds("the name " + name + " is no public one", !String.join(";", METHODS).contains(" " + name + "("));
        }
    }

    private static String signature(Method method) {
        StringBuilder text = new StringBuilder();
        text.append(method.getReturnType().getSimpleName()).append(' ').append(method.getName()).append('(');
        String comma = "";
        for (Class<?> parameter : method.getParameterTypes()) {
            text.append(comma).append(parameter.getSimpleName());
            comma = ",";
        }
        text.append(')');
        for (Class<?> exception : method.getExceptionTypes()) {
            text.append(' ').append(exception.getSimpleName());
        }
        return text.toString();
    }
}
