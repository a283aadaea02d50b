import java.util.ArrayList;
import java.util.Arrays;
import java.util.List;

/**
 * What the tests of boundaries share: a run of calls on one object, each with what is due of it. Of a call that has to
 * leave all as it was, the run is done again on two new objects, once with that call and once without it; then both
 * are asked for all that can be seen of them, also of the CHANGES that can be taken back.
 */
abstract class Trial {
    /** A call on an object. */
    interface Call {
        Object on(Pagedocument x);
    }

    private static final String INDEX = "IndexOutOfBoundsException";
    private static final String ARGUMENT = "IllegalArgumentException";
    private static final String STATE = "IllegalStateException";
    protected static final String[] WORDS = {"/Kind ", "/Page", "/Tree", "/Kids ", "/Count ", "/Box ", "/Turn ", "/Parts ",
        "/Forms ", "/Filter ", "/Form", "/Pages ", "/Root", "/Pack", "/Hex", "/Run", "/Back", "<<", ">>", " R", "/Notes ",
        "/Lines ", "/Fields "};

    private final List<Call> run = new ArrayList<>();
    private Pagedocument x = new Pagedocument();
    private String sentence = "";
    private int kept;
    private int looked;
    private int wrong;

    /** Begins with a new object; the sentence of the document is told of what is not as due. */
    protected final void start(String of) {
        sentence = of;
        x = new Pagedocument();
        run.clear();
        kept = 0;
    }

    /** What was done so far is what back() goes back to. */
    protected final void keep() {
        kept = run.size();
    }

    /** Goes on with a new object for which only that was done which was kept: so each has few calls. */
    protected final void back() {
        run.subList(kept, run.size()).clear();
        x = again();
    }

    /** The same run goes on under another sentence. */
    protected final void goOn(String of) {
        sentence = of;
    }

    protected final void end() {
        System.out.println(looked + " answers looked at, " + wrong + " not as due");
        if (wrong != 0) {
            System.exit(1);
        }
    }

    private void look(String what, Object got, Object want) {
        looked++;
        if (!want.equals(got)) {
            wrong++;
            System.out.println(sentence + " | " + what + ": answered " + got + ", due is " + want);
        }
    }

    private static Object answer(Pagedocument on, Call call) {
        try {
            return call.on(on);
        } catch (RuntimeException e) {
            return "throws " + e.getClass().getSimpleName();
        }
    }

    /** A call that prepares: it must neither throw nor be refused. */
    protected final void does(Call call) {
        run.add(call);
        Object got = answer(x, call);
        boolean isDone = got instanceof Integer number ? number >= 0 : !String.valueOf(got).startsWith("throws ");
        look("what prepares is done", isDone ? "done" : got, "done");
    }

    protected final void due(String what, Object want, Call call) {
        run.add(call);
        look(what, answer(x, call), want);
    }

    /** A call that has to answer so, and to change nothing. */
    protected final void idle(String what, Object want, Call call) {
        look(what, answer(x, call), want);
        Pagedocument with = again();
        answer(with, call);
        look(what + ", nothing changes", seen(with), seen(again()));
    }

    protected final void refused(String what, Call call) {
        idle(what, -9, call);
    }

    protected final void index(String what, Call call) {
        idle(what, "throws " + INDEX, call);
    }

    protected final void argument(String what, Call call) {
        idle(what, "throws " + ARGUMENT, call);
    }

    protected final void state(String what, Call call) {
        idle(what, "throws " + STATE, call);
    }

    /** A new object for which the same was done. */
    protected final Pagedocument again() {
        Pagedocument other = new Pagedocument();
        for (Call call : run) {
            answer(other, call);
        }
        return other;
    }

    /** All that can be seen of an object, which is used up by that. */
    private static List<Object> seen(Pagedocument of) {
        List<Object> all = new ArrayList<>();
        all.add(of.digest());
        Object undone = 0;
        while (undone instanceof Integer && all.size() < 40) {
            all.add(of.update(0));
            all.add(of.update(1));
            all.add(of.write(0, 2, false));
            all.add(of.write(1, 3, false));
            all.add(of.digest());
            undone = answer(of, Pagedocument::undo);
            all.add(undone);
        }
        return all;
    }

    // ---- what many runs need

    /** Makes the LINE this text. */
    protected final void type(String text) {
        does(on -> typed(on, text));
    }

    /** Six codes a call, and words where they can be, as an object is used for at most 512 calls. */
    protected static int typed(Pagedocument on, String text) {
        int[] codes = {300, -1, -1, -1, -1, -1};
        int many = 1;
        int length = 0;
        for (int at = 0; at < text.length();) {
            int word = wordAt(text, at);
            codes[many] = word < 0 ? text.charAt(at) : 200 + word;
            at += word < 0 ? 1 : WORDS[word].length();
            many++;
            if (many == codes.length) {
                length = on.say(codes[0], codes[1], codes[2], codes[3], codes[4], codes[5]);
                Arrays.fill(codes, -1);
                many = 0;
            }
        }
        return many == 0 ? length : on.say(codes[0], codes[1], codes[2], codes[3], codes[4], codes[5]);
    }

    private static int wordAt(String text, int at) {
        int found = -1;
        for (int k = 0; k < WORDS.length; k++) {
            if (text.startsWith(WORDS[k], at) && (found < 0 || WORDS[k].length() > WORDS[found].length())) {
                found = k;
            }
        }
        return found;
    }

    /** Makes a FILE this text. */
    protected final void file(int file, String text) {
        does(on -> filed(on, file, text));
    }

    protected static int filed(Pagedocument on, int file, String text) {
        String last = null;
        on.cut(file, 0);
        for (int k = 0; k < text.length(); k += 200) {
            String next = text.substring(k, Math.min(k + 200, text.length()));
            if (!next.equals(last)) {
                typed(on, next);
            }
            on.put(file, on.size(file));
            last = next;
        }
        return on.size(file);
    }

    protected static String whole(Pagedocument of, int file) {
        StringBuilder text = new StringBuilder();
        for (int k = 0; k < of.size(file); k += 100) {
            text.append(of.text(file, k));
        }
        return text.toString();
    }

    protected final void define(int doc, int object, String value) {
        type(value);
        does(on -> on.define(doc, object));
    }

    protected final void stream(int doc, int object, String data) {
        type(data);
        does(on -> on.stream(doc, object));
    }

    /** FAULT of a LINE. */
    protected final void fault(String text, int want) {
        type(text);
        due("FAULT of " + text, want, Pagedocument::fault);
        due("WRITTEN, with or without a FAULT", want != -1, on -> on.written().equals("-"));
    }

    protected final void written(String text, String want) {
        type(text);
        due("WRITTEN of " + text, want, Pagedocument::written);
    }

    protected static String times(int many, String text) {
        return text.repeat(many);
    }

    /** A FILE: what is ahead of its TABLE, the TABLE up to its TRAILER, and where it begins. */
    protected static String tabled(String bodies, String table) {
        return bodies + table + "start\n" + bodies.length() + "\n%E\n";
    }

    /** A BODY of a VALUE. */
    protected static String body(int number, String value) {
        return number + " o\n" + value + "\nend\n";
    }

    /** A BODY of a STREAM, of which this stands in the BOOK beside "Len". */
    protected static String body(int number, String names, String data) {
        return number + " o\n<<" + names + "/Len " + data.length() + ">>\ndata\n" + data + "\nend\n";
    }

    /** DOCUMENT 0 becomes what a REPAIR makes of these BODIES. */
    protected final void repaired(String bodies) {
        file(3, bodies);
        does(on -> on.repair(3, 0));
    }

    /** DOCUMENT 0 gets a LOCK by KEY 5, if it is OPEN by that, and is not OPEN then. */
    protected final void closed(int lets) {
        does(on -> on.open(0, 5));
        does(on -> on.lock(0, 5, lets));
        does(on -> on.write(0, 0, false));
        does(on -> on.read(0, 0));
    }

    /** All MARKS of a PAGE, and FAULT of its CONTENT, if it has one. */
    protected static String marks(Pagedocument of, int doc, int page) {
        StringBuilder told = new StringBuilder();
        int many = of.ofPage(doc, page, 6);
        for (int k = 0; k < many; k++) {
            told.append(k > 0 ? "|" : "").append(of.mark(doc, page, k));
        }
        int fault = of.ofPage(doc, page, 7);
        return fault < 0 ? told.toString() : told + "!" + fault;
    }
}
