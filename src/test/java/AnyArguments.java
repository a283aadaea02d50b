import java.lang.reflect.InvocationTargetException;
import java.lang.reflect.Method;
import java.lang.reflect.Modifier;
import java.util.ArrayList;
import java.util.Comparator;
import java.util.List;

/**
 * Calls all methods with all sorts of arguments, in states of all sorts. A call may throw what its signature tells,
 * by a throw statement of the program, and nothing else. A second object does the same calls without those that throw
 * or are refused: it has to answer all others alike, as such a call changes nothing and as no answer depends on
 * anything but the calls.
 */
public final class AnyArguments {
    private static final int RUNS = 150;
    private static final int CALLS = 500;
    private static final int[] EDGES = {Integer.MIN_VALUE, Integer.MIN_VALUE + 1, -10000, -9999, -1000, -100, -99, -41, -10,
        -9, -2, -1, 4, 5, 6, 7, 8, 9, 10, 11, 12, 13, 24, 25, 26, 27, 40, 41, 59, 60, 61, 62, 96, 97, 98, 99, 100, 101, 126,
        127, 199, 200, 201, 222, 223, 299, 300, 301, 302, 500, 501, 998, 999, 1000, 1023, 5999, 6000, 6001, 9999, 10000,
        65535, 65536, Integer.MAX_VALUE - 1, Integer.MAX_VALUE};
    private static final String[] TEXTS = {"<</Kind /Page /Parts [5 R 6 R]>>", "<</Kind /Tree /Kids [3 R 4 R 7 R]>>",
        "<</Kind /Root /Pages 2 R /Lines [3] /Fields <</A 1>>>>", "(ab) T 1 1 3 3 B /A X", "/A X /B X q Q 0 0 2 2 C", "[1 R",
        "~9a~1~^19", "616263>", "", "7 o\n<</Len 3>>\ndata\nabc\nend\n", "<</Root 1 R>>", "[[[[[]]]]]", "null", "-0 ", "/Pack",
        "<</Kind /Pack>>", "<</Kind /Page /Turn -7 /Box [-9999 9999 40 40] /Forms <</A 5 R>>>>", "9999 -9999 9 9 B"};

    private static long seed;
    private static int looked;
    private static int wrong;

    public static void main(String[] args) throws Exception {
        List<Method> methods = new ArrayList<>();
        for (Method method : Pagedocument.class.getDeclaredMethods()) {
            if (Modifier.isPublic(method.getModifiers())) {
                methods.add(method);
            }
        }
        // their sequence is free otherwise, and the same calls should come each time
        methods.sort(Comparator.comparing(Method::getName));
        for (int run = 0; run < RUNS; run++) {
            seed = run;
            goThrough(run, methods);
        }
        System.out.println(looked + " answers looked at, " + wrong + " not as due");
        if (wrong != 0 || methods.size() != 59) {
            System.exit(1);
        }
    }

    private static int any(int below) {
        seed = seed * 6364136223846793005L + 1442695040888963407L;
        return (int) ((seed >>> 33) % below);
    }

    private static void look(String what, boolean isSo) {
        looked++;
        if (!isSo) {
            wrong++;
            System.out.println(what);
        }
    }

    private static void goThrough(int run, List<Method> methods) throws Exception {
        Pagedocument all = new Pagedocument();
        Pagedocument done = new Pagedocument();
        for (int call = 0; call < CALLS; call++) {
            if (any(5) == 0) {
                String text = TEXTS[any(TEXTS.length)];
                call += type(all, text);
                type(done, text);
            }
            Method method = methods.get(any(methods.size()));
            Object[] values = values(method);
            Object answer = answer(all, method, values);
            boolean isLeft = answer instanceof Exception || answer instanceof Integer number && number < -1;
            if (!isLeft) {
                Object other = answer(done, method, values);
                look("run " + run + ": " + method.getName() + " answers " + answer + " and " + other, answer.equals(other));
            }
        }
        look("run " + run + ": all is alike", all.digest() == done.digest());
    }

    /** Tells how many calls that takes. */
    private static int type(Pagedocument x, String text) {
        x.say(300, -1, -1, -1, -1, -1);
        int calls = 1;
        for (int k = 0; k < text.length(); k += 6) {
            int[] codes = new int[6];
            for (int i = 0; i < 6; i++) {
                codes[i] = k + i < text.length() ? text.charAt(k + i) : -1;
            }
            x.say(codes[0], codes[1], codes[2], codes[3], codes[4], codes[5]);
            calls++;
        }
        return calls;
    }

    /** Mostly few documents, pages and small numbers, so that enough of the calls are let. */
    private static Object[] values(Method method) {
        Class<?>[] types = method.getParameterTypes();
        Object[] values = new Object[types.length];
        boolean isWild = any(4) == 0;
        for (int k = 0; k < types.length; k++) {
            int small = any(3) == 0 ? any(10) : k == 0 ? any(2) : any(4);
            int number = isWild && any(3) == 0 ? EDGES[any(EDGES.length)] : small;
            values[k] = types[k] == boolean.class ? (Object) (any(2) == 0) : (Object) number;
        }
        return values;
    }

    private static Object answer(Pagedocument x, Method method, Object[] values) throws IllegalAccessException {
        try {
            return method.invoke(x, values);
        } catch (InvocationTargetException e) {
            Throwable thrown = e.getCause();
            boolean isTold = List.of(method.getExceptionTypes()).contains(thrown.getClass());
            boolean isByProgram = thrown.getStackTrace()[0].getClassName().startsWith("Pagedocument");
            look(method.getName() + " of " + List.of(values) + " throws " + thrown, isTold && isByProgram && thrown instanceof Exception);
            return thrown instanceof Exception ? thrown : new Exception(thrown);
        }
    }
}
