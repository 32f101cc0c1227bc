import java.lang.reflect.Constructor;
import java.lang.reflect.Field;
import java.lang.reflect.Method;
import java.lang.reflect.Modifier;
import java.util.Arrays;
import java.util.Set;
import java.util.TreeSet;

/** The class shows the document's face and nothing else, and no argument makes the machine throw. */
public final class FaceTest {
    private static final String[] FACE = {
        "int feed(int,int,int,int,int)", "boolean end(int)", "int town()", "int temper()", "int fault()",
        "int has(int,int)", "int give(int,int,int,int,boolean)", "int pass(int,int)", "int call(int)", "int days(int)",
        "int look(int,int)", "int hand(int,int)", "boolean takes(int,int)", "int rich(int)", "int debt(int)",
        "int owes(int,int)", "int pays(int,int,int)", "boolean can(int)", "int meet(int)", "boolean enough(int)",
        "int witness(int)", "int fewest()", "int forgive(int)", "int port(int,int)", "int most(int,int)",
        "int cut(int,int)", "int chain(int,int,int,int)", "int ring()", "int clear(int)", "int loss(int,int)",
        "int ruined(int)", "int fits(int)", "int play(int,int,int)", "void image()", "boolean back()", "int count(int)",
    };
    private static final int[] ODD = {
        Integer.MIN_VALUE, -32, -2, -1, 0, 1, 2, 3, 11, 12, 13, 31, 32, 39, 40, 41, 60, 61, 99, 100, 400, Integer.MAX_VALUE,
    };
    private static final Set<String> ALLOWED = Set.of("IndexOutOfBoundsException", "IllegalArgumentException",
        "NoSuchElementException", "UnsupportedOperationException");

    private static final Check CHECK = new Check("FaceTest");

    public static void main(String[] args) throws Exception {
        face();
        members();
        oddArguments(new FavourTown());
        oddArguments(full());
        CHECK.end();
    }

    private static void face() {
        Set<String> got = new TreeSet<>();
        for (Method method : FavourTown.class.getDeclaredMethods()) {
            if (Modifier.isPublic(method.getModifiers())) {
                got.add(signature(method));
            }
        }
        Set<String> want = new TreeSet<>(Arrays.asList(FACE));
        if (!got.equals(want)) {
            CHECK.fail("the face is " + got + ", due is " + want);
        }
        Constructor<?>[] constructors = FavourTown.class.getDeclaredConstructors();
        CHECK.due("constructors", constructors.length, 1);
        CHECK.due("public", Modifier.isPublic(constructors[0].getModifiers()), true);
        CHECK.due("its parameters", constructors[0].getParameterCount(), 0);
        CHECK.due("the class is final", Modifier.isFinal(FavourTown.class.getModifiers()), true);
    }

    private static String signature(Method method) {
        StringBuilder text = new StringBuilder(method.getReturnType().getSimpleName()).append(' ').append(method.getName());
        String between = "(";
        for (Class<?> type : method.getParameterTypes()) {
            text.append(between).append(type.getSimpleName());
            between = ",";
        }
        return text.append(between.equals("(") ? "()" : ")").toString();
    }

    private static void members() {
        Set<String> names = new TreeSet<>();
        for (Method method : FavourTown.class.getDeclaredMethods()) {
            if (Modifier.isPublic(method.getModifiers())) {
                names.add(method.getName());
            }
        }
        for (Method method : FavourTown.class.getDeclaredMethods()) {
            boolean isPrivate = Modifier.isPrivate(method.getModifiers());
            CHECK.due("private or public: " + method, isPrivate || Modifier.isPublic(method.getModifiers()), true);
            CHECK.due("a private name of its own: " + method, isPrivate && names.contains(method.getName()), false);
        }
        for (Field field : FavourTown.class.getDeclaredFields()) {
            CHECK.due("private or NONE: " + field,
                Modifier.isPrivate(field.getModifiers()) || field.getName().equals("NONE"), true);
        }
        for (Class<?> inner : FavourTown.class.getDeclaredClasses()) {
            CHECK.due("static: " + inner, Modifier.isStatic(inner.getModifiers()), true);
            for (Field field : inner.getDeclaredFields()) {
                int modifiers = field.getModifiers();
                CHECK.due("static and final: " + field, !Modifier.isStatic(modifiers) || Modifier.isFinal(modifiers), true);
            }
        }
    }

    /** A town at all its bounds at once. */
    private static FavourTown full() {
        FavourTown x = Check.told("person 999;person 999;person 999;person 999;person 999;person 999",
            "person 999;person 999;person 999;person 999;person 999;person 999;near 0 1;near 0 11");
        for (int k = 0; k < 6; k++) {
            Check.temper(x, "take if worth>" + k + " or timed and again");
        }
        for (int k = 0; k < 12; k++) {
            x.has(k, k % 7 - 1);
        }
        String needs = "need 0 of 1 4;need 1 of 2 9;need 2 of 3 4;need 3 of 4 99;need 11 of 10 1;need 5 of 1 4";
        Check.town(x, needs);
        Check.town(x, needs);
        for (int k = 0; k < 40; k++) {
            x.give(k % 12, (k * 5 + 1) % 12 == k % 12 ? (k + 1) % 12 : (k * 5 + 1) % 12, 1 + k * 7 % 99, k % 3, k % 4 == 0);
        }
        for (int k = 0; k < 8; k++) {
            Check.ring(x, k % 2 == 0 ? "ab" : "abcdef");
        }
        for (int k = 0; k < 400; k++) {
            int to = k * 7 % 12;
            if (x.look(k % 40, 1) != to) {
                x.pass(k % 40, to);
            }
        }
        return x;
    }

    private static void oddArguments(FavourTown x) throws Exception {
        for (Method method : FavourTown.class.getDeclaredMethods()) {
            if (Modifier.isPublic(method.getModifiers())) {
                int count = method.getParameterCount();
                int tries = count == 0 ? 2 : count == 1 ? ODD.length : 600;
                for (int k = 0; k < tries; k++) {
                    oddCall(x, method, k);
                }
            }
        }
    }

    private static void oddCall(FavourTown x, Method method, int number) throws Exception {
        Object[] arguments = new Object[method.getParameterCount()];
        int rest = number;
        for (int k = 0; k < arguments.length; k++) {
            boolean flag = method.getParameterTypes()[k] == boolean.class;
            int odd = ODD[Math.floorMod(rest + k * (rest / ODD.length), ODD.length)];
            arguments[k] = flag ? (Object) (odd % 2 == 0) : (Object) odd;
        }
        try {
            method.invoke(x, arguments);
        } catch (java.lang.reflect.InvocationTargetException e) {
            Throwable cause = e.getCause();
            StackTraceElement[] trace = cause.getStackTrace();
            boolean thrownByIt = trace.length > 0 && trace[0].getClassName().startsWith("FavourTown");
            if (!ALLOWED.contains(cause.getClass().getSimpleName()) || !thrownByIt
                || cause.getMessage() == null || cause.getMessage().contains("ndex ")) {
                CHECK.fail(method.getName() + Arrays.toString(arguments) + " threw " + cause);
            }
        }
    }
}
