import java.io.BufferedReader;
import java.io.IOException;
import java.io.InputStreamReader;
import java.lang.reflect.InvocationTargetException;
import java.lang.reflect.Method;
import java.lang.reflect.Modifier;
import java.nio.charset.StandardCharsets;
import java.nio.file.Files;
import java.nio.file.Path;
import java.util.HashMap;
import java.util.List;
import java.util.Map;

/**
 * Does runs of calls that tools/fuzz.py has recorded with the answers of tools/model.py, a second reading of the
 * document. With "-" it answers the calls that stand on its input instead, a line each.
 */
public final class RecordedRuns {
    private static final Map<String, Method> METHODS = new HashMap<>();

    public static void main(String[] args) throws Exception {
        for (Method method : Pagedocument.class.getDeclaredMethods()) {
            if (Modifier.isPublic(method.getModifiers())) {
                METHODS.put(method.getName(), method);
            }
        }
        if (args.length > 0) {
            answer();
            return;
        }
        List<String> lines = Files.readAllLines(Path.of("src/test/data/runs.txt"), StandardCharsets.US_ASCII);
        Pagedocument x = new Pagedocument();
        int wrong = 0;
        int run = 0;
        for (String line : lines) {
            if (line.equals("new")) {
                x = new Pagedocument();
                run++;
                continue;
            }
            int at = line.indexOf(" = ");
            String got = call(x, line.substring(0, at).split(" "));
            if (!got.equals(line.substring(at + 3))) {
                wrong++;
                System.out.println("run " + run + ": " + line + ", answered " + got);
            }
        }
        System.out.println(lines.size() - run + " recorded calls, " + wrong + " not as due");
        if (wrong != 0 || run == 0) {
            System.exit(1);
        }
    }

    private static void answer() throws IOException, IllegalAccessException {
        BufferedReader in = new BufferedReader(new InputStreamReader(System.in, StandardCharsets.US_ASCII));
        StringBuilder out = new StringBuilder();
        Pagedocument x = new Pagedocument();
        for (String line = in.readLine(); line != null; line = in.readLine()) {
            if (line.equals("new")) {
                x = new Pagedocument();
                out.append("new\n");
            } else {
                out.append(call(x, line.split(" "))).append('\n');
            }
        }
        System.out.print(out);
    }

    private static String call(Pagedocument x, String[] words) throws IllegalAccessException {
        Method method = METHODS.get(words[0]);
        Class<?>[] types = method.getParameterTypes();
        Object[] values = new Object[types.length];
        for (int k = 0; k < values.length; k++) {
            int value = Integer.parseInt(words[k + 1]);
            values[k] = types[k] == boolean.class ? (Object) (value == 1) : (Object) value;
        }
        try {
            return told(method.invoke(x, values));
        } catch (InvocationTargetException e) {
            return "throws." + e.getCause().getClass().getSimpleName();
        }
    }

    private static String told(Object answer) {
        if (answer instanceof Boolean) {
            return answer.equals(true) ? "1" : "0";
        }
        if (!(answer instanceof String)) {
            return answer.toString();
        }
        StringBuilder text = new StringBuilder("s");
        for (char sign : ((String) answer).toCharArray()) {
            if (sign >= 32 && sign <= 126 && sign != '\\') {
                text.append(sign);
            } else {
                text.append(String.format("\\%02x", (int) sign));
            }
        }
        return text.toString();
    }
}
