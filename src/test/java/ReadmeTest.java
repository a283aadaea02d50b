import java.lang.reflect.InvocationTargetException;
import java.lang.reflect.Method;
import java.lang.reflect.Modifier;
import java.nio.file.Files;
import java.nio.file.Path;
import java.util.ArrayList;
import java.util.List;
import java.util.regex.Matcher;
import java.util.regex.Pattern;

/** Does the calls of the example in README.md, and looks whether they answer what stands behind them there. */
public final class ReadmeTest {
    private static final Pattern CALL = Pattern.compile("house\\.(\\w+)\\((.*)\\);\\s+// (.+)");

    private static int looked;
    private static int wrong;

    public static void main(String[] args) throws Exception {
        String text = Files.readString(Path.of("README.md"));
        Matcher example = Pattern.compile("```java\n(.*?)```", Pattern.DOTALL).matcher(text);
        look("an example", example.find(), true);
        Pagedocument house = new Pagedocument();
        for (String line : example.group(1).split("\n")) {
            Matcher call = CALL.matcher(line);
            if (call.matches()) {
                look(line, answer(house, call.group(1), call.group(2)), due(call.group(3)));
            } else {
                boolean isOther = line.isEmpty() || line.startsWith("//") || line.equals("Pagedocument house = new Pagedocument();");
                look("what stands in the example: " + line, isOther, true);
            }
        }
        for (Method method : Pagedocument.class.getDeclaredMethods()) {
            if (Modifier.isPublic(method.getModifiers())) {
                look(method.getName() + " is told", text.contains("`" + method.getName() + "`"), true);
            }
        }
        System.out.println(looked + " answers looked at, " + wrong + " not as due");
        if (wrong != 0 || looked < 60) {
            System.exit(1);
        }
    }

    private static void look(String what, Object got, Object want) {
        looked++;
        if (!want.equals(got)) {
            wrong++;
            System.out.println(what + " | answered " + got);
        }
    }

    /** What stands behind a call: a text between two quotes, otherwise all up to the colon. */
    private static String due(String remark) {
        int end = remark.startsWith("\"") ? remark.indexOf('"', 1) + 1 : (remark + ":").indexOf(':');
        return remark.substring(0, end);
    }

    private static String answer(Pagedocument house, String name, String arguments) throws IllegalAccessException {
        List<Object> values = new ArrayList<>();
        for (String one : arguments.isEmpty() ? new String[0] : arguments.split(", ")) {
            values.add(one.equals("true") || one.equals("false") ? (Object) one.equals("true") : (Object) Integer.parseInt(one));
        }
        for (Method method : Pagedocument.class.getDeclaredMethods()) {
            if (method.getName().equals(name) && Modifier.isPublic(method.getModifiers())) {
                return told(house, method, values);
            }
        }
        return "there is no such method";
    }

    private static String told(Pagedocument house, Method method, List<Object> values) throws IllegalAccessException {
        try {
            Object answer = method.invoke(house, values.toArray());
            return answer instanceof String text ? '"' + text.replace("\n", "\\n") + '"' : String.valueOf(answer);
        } catch (InvocationTargetException e) {
            return "throws " + e.getCause().getClass().getSimpleName();
        }
    }
}
