import java.util.Arrays;
import java.util.function.IntSupplier;
import java.util.function.Supplier;

/** Goes through the promises one by one: ordinary calls, the edges that the document names, and wrong ones. */
public final class PagedocumentTest {
    private static int wrong;
    private static int looked;
    private static String promise = "";
    private static Pagedocument x;

    private static void due(String what, Object got, Object want) {
        looked++;
        if (!want.equals(got)) {
            wrong++;
            System.out.println(promise + ", " + what + ": answered " + got + ", due is " + want);
        }
    }

    private static void dueThrow(String what, Class<?> want, Supplier<Object> call) {
        Class<?> got = null;
        try {
            call.get();
        } catch (RuntimeException e) {
            got = e.getClass();
        }
        due(what + " throws", String.valueOf(got), String.valueOf(want));
    }

    private static void index(String what, IntSupplier call) {
        dueThrow(what, IndexOutOfBoundsException.class, () -> call.getAsInt());
    }

    private static void argument(String what, IntSupplier call) {
        dueThrow(what, IllegalArgumentException.class, () -> call.getAsInt());
    }

    private static void indexText(String what, Supplier<Object> call) {
        dueThrow(what, IndexOutOfBoundsException.class, call);
    }

    private static void argumentText(String what, Supplier<Object> call) {
        dueThrow(what, IllegalArgumentException.class, call);
    }

    private static void start(int number) {
        promise = "promise " + number;
        x = new Pagedocument();
    }

    private static void say(int code) {
        x.say(code, -1, -1, -1, -1, -1);
    }

    /** Makes the LINE this text, six SIGNS a call. */
    private static void type(String text) {
        int[] codes = {300, -1, -1, -1, -1, -1};
        for (int k = 0; k < text.length(); k++) {
            int at = (k + 1) % 6;
            codes[at] = text.charAt(k);
            if (at == 5 && k + 1 < text.length()) {
                x.say(codes[0], codes[1], codes[2], codes[3], codes[4], codes[5]);
                Arrays.fill(codes, -1);
            }
        }
        x.say(codes[0], codes[1], codes[2], codes[3], codes[4], codes[5]);
    }

    private static String times(int many, String text) {
        return text.repeat(many);
    }

    private static void file(int file, String text) {
        x.cut(file, 0);
        for (int k = 0; k < text.length(); k += 200) {
            type(text.substring(k, Math.min(k + 200, text.length())));
            x.put(file, x.size(file));
        }
    }

    private static String whole(int file) {
        StringBuilder text = new StringBuilder();
        for (int k = 0; k < x.size(file); k += 100) {
            text.append(x.text(file, k));
        }
        return text.toString();
    }

    private static void define(int doc, int object, String value) {
        type(value);
        x.define(doc, object);
    }

    private static void stream(int doc, int object, String data) {
        type(data);
        x.stream(doc, object);
    }

    private static int faultAt(String text) {
        type(text);
        return x.fault();
    }

    private static String writtenOf(String text) {
        type(text);
        return x.written();
    }

    private static int faultOfFile(String text) {
        x = new Pagedocument();
        file(0, text);
        return x.faultOf(0);
    }

    public static void main(String[] args) {
        newObject();
        line();
        faults();
        written();
        filters();
        texts();
        changesOfFiles();
        fresh();
        write();
        packs();
        update();
        read();
        readFaults();
        readPacks();
        repair();
        objects();
        changesOfObjects();
        filtersOfStreams();
        trees();
        contents();
        forms();
        drawn();
        find();
        pages();
        flat();
        parts();
        black();
        merge();
        split();
        notes();
        titles();
        fields();
        locks();
        undo();
        house();
        sound();
        System.out.println(looked + " answers looked at, " + wrong + " not as due");
        if (wrong != 0) {
            System.exit(1);
        }
    }

    private static void newObject() {
        start(1);
        for (int doc = 0; doc < 2; doc++) {
            due("ROOT", x.object(doc, 1), "<</Kind /Root /Pages 2 R>>");
            due("TREE", x.object(doc, 2), "<</Count 0 /Kids [] /Kind /Tree>>");
            due("third", x.object(doc, 3), "");
            due("OBJECTS", x.ofDoc(doc, 0), 2);
            due("PAGES", x.ofDoc(doc, 2), 0);
            due("LOCK", x.ofDoc(doc, 6), 0);
            due("HOME", x.ofDoc(doc, 8), -1);
        }
        for (int file = 0; file < 4; file++) {
            due("FILE", x.size(file), 0);
        }
        due("LINE", x.line(), "");
        due("changes", x.house(2), 0);
    }

    private static void line() {
        start(2);
        due("signs", x.say(65, 10, 126, 32, -1, 90), 5);
        due("LINE", x.line(), "A\n~ Z");
        due("words", x.say(300, 200, 201, 202, 203, 204), 29);
        due("LINE of words", x.line(), "/Kind /Page/Tree/Kids /Count ");
        x.say(300, 205, 206, 207, 208, 209);
        due("more words", x.line(), "/Box /Turn /Parts /Forms /Filter ");
        x.say(300, 210, 211, 212, 213, 214);
        due("more words", x.line(), "/Form/Pages /Root/Pack/Hex");
        x.say(300, 215, 216, 217, 218, 219);
        due("more words", x.line(), "/Run/Back<<>> R");
        x.say(300, 220, 221, 222, 301, -1);
        due("last words", x.line(), "/Notes /Lines /Fields");
        due("last SIGN of none", x.say(300, 301, 301, -1, -1, -1), 0);
        for (int code : new int[] {-2, 0, 9, 11, 31, 127, 199, 223, 299, 302}) {
            argument("code " + code, () -> x.say(65, 65, 65, 65, 65, code));
        }
        due("nothing changed", x.line(), "");
        type(times(199, "a"));
        dueThrow("201 at some moment", IllegalStateException.class, () -> x.say(98, 98, 301, 301, -1, -1));
        dueThrow("a word too long", IllegalStateException.class, () -> x.say(217, 301, 301, -1, -1, -1));
        argument("a wrong code goes ahead", () -> x.say(98, 98, 98, 98, 98, 302));
        due("nothing changed", x.house(0), 199);
        due("200", x.say(98, -1, -1, -1, -1, -1), 200);
        start(3);
        type("a\nb");
        due("LINE", x.line(), "a\nb");
    }

    private static void faults() {
        start(4);
        due("none", faultAt(" \n null \n"), -1);
        due("nothing", faultAt(""), 0);
        due("too early", faultAt("  "), 2);
        due("too early in a word", faultAt("nul"), 3);
        due("another word", faultAt("nulx"), 3);
        due("no VALUE", faultAt(" R"), 1);
        due("behind it", faultAt("null l"), 5);
        due("a word behind", faultAt("nulll"), 4);
        due("four digits", faultAt("-9999"), -1);
        due("five digits", faultAt(" 12345"), 1);
        due("five digits below 0", faultAt("-00001"), 0);
        due("no digit", faultAt("-a"), 1);
        due("no digit at the end", faultAt("-"), 1);
        due("REF", faultAt("0060  R"), -1);
        due("REF of 61", faultAt("61 R"), 3);
        due("REF of 0", faultAt("0 R"), 2);
        due("REF with a sign", faultAt("-3 R"), 3);
        due("REF without BLANK", faultAt("3R"), 1);
        due("REF with NEWLINE", faultAt("3\nR"), 2);
        due("NAME", faultAt("/abCDEF"), -1);
        due("NAME of 7", faultAt(" /abCDEFg"), 1);
        due("NAME of none", faultAt("/1"), 1);
        due("STRING of 40", faultAt("(" + times(40, "a") + ")"), -1);
        due("STRING of 40 with a backslash", faultAt("(" + times(39, "a") + "\\))"), -1);
        due("STRING of 41", faultAt(" (" + times(41, "a") + ")"), 1);
        due("STRING of 41 that end", faultAt("(" + times(41, "a")), 0);
        due("41st SIGN behind its backslash", faultAt("(" + times(40, "a") + "\\()"), 0);
        due("41st SIGN that can not stand there", faultAt("(" + times(40, "a") + "\\a)"), 42);
        due("41st is a backslash at the end", faultAt("(" + times(40, "a") + "\\"), 42);
        due("41st is a bracket", faultAt("(" + times(40, "a") + "("), 41);
        due("STRING with a bracket", faultAt("(a(b)"), 2);
        due("STRING with NEWLINE", faultAt("(a\nb)"), 2);
        due("STRING with a wrong backslash", faultAt("(\\a)"), 2);
        due("STRING too early", faultAt("(ab"), 3);
        due("ROW of 12", faultAt("[" + times(12, "1 ") + "]"), -1);
        due("ROW of 13", faultAt(" [" + times(12, "1 ") + "1]"), 1);
        due("13th has a FAULT itself", faultAt("[" + times(12, "1 ") + "nx"), 0);
        due("13th is no VALUE", faultAt("[" + times(12, "1 ") + "x"), 25);
        due("13th is too deep, too", faultAt("[[[[[" + times(12, "1 ") + "[]]]]]]"), 4);
        due("five deep", faultAt("[<</A [<</A [1]>>]>>]"), -1);
        due("six deep", faultAt("[[[[[[1]]]]]]"), 5);
        due("a BOOK six deep", faultAt("[[[[[<x"), 5);
        due("BOOK begun", faultAt("<x"), 1);
        due("BOOK too early", faultAt("<<"), 2);
        due("BOOK ended by one", faultAt("<</A 1> >"), 7);
        due("BOOK ended too early", faultAt("<</A 1>"), 7);
        due("BOOK without a VALUE", faultAt("<</A >>"), 5);
        due("BOOK without a NAME", faultAt("<<1>>"), 2);
        due("BOOK with a NAME too long", faultAt("<</Abcdefg 1>>"), 2);
        due("ROW ended as a BOOK", faultAt("[1>"), 2);
        String ten = "/A 1/B 1/C 1/D 1/E 1/F 1/G 1/H 1/I 1/J 1";
        due("BOOK of 10", faultAt("<<" + ten + "/A 2/K null>>"), -1);
        due("BOOK of 11", faultAt(" <<" + ten + "/K 1>>"), 1);
        due("BOOK of 11 not ended", faultAt("<<" + ten + "/K 1>x"), 47);
        due("BOOK of 11 that become 10", faultAt("<<" + ten + "/K 1/K null>>"), -1);
    }

    private static void written() {
        start(5);
        due("a FAULT", writtenOf("[1"), "-");
        due("numbers", writtenOf("[007 -0 -012 0 9999 09 R]"), "[7 0 -12 0 9999 9 R]");
        due("no BLANKS", writtenOf("[1()/A/B-1[]<<>>truefalse3 R4 R]"), "[1 () /A /B -1 [] <<>> true false 3 R 4 R]");
        due("STRING", writtenOf("(a\\(\\)\\\\b ]>)"), "(a\\(\\)\\\\b ]>)");
        due("null in a ROW", writtenOf(" [null\nnull ]"), "[null null]");
        due("NAMES rise", writtenOf("<</b 1/AB 2/A 3/B/a/a<</Z 1/A 2>>>>"), "<</A 3 /AB 2 /B /a /a <</A 2 /Z 1>> /b 1>>");
        due("the later one", writtenOf("<</A 1/B null/A 2/C 1/C null/D null/D 4>>"), "<</A 2 /D 4>>");
        due("null", writtenOf("null"), "null");
    }

    private static void filters() {
        start(6);
        type("~~~^^abababab");
        due("Hex", x.filtered(0, false), "7e7e7e5e5e6162616261626162>");
        due("Run", x.filtered(1, false), "~3~^^abababab");
        due("Back", x.filtered(2, false), "~~~^00^00ab^26");
        type("aa" + times(19, "b") + "~~c");
        due("Run of 19", x.filtered(1, false), "aa~9b~9bb~1~~1~c");
        type("abcdefghiabcdefghi");
        due("Back from 9", x.filtered(2, false), "abcdefghi^99");
        type("abcabdabcab");
        due("Back: the longest", x.filtered(2, false), "abcabd^65");
        type("abababa");
        due("Back: least far", x.filtered(2, false), "ab^25");
        due("Hex undone", undone(0, "4a 4B\n4>zz"), "JK@");
        due("Hex without its end", undone(0, "4a"), "-");
        due("Hex with another SIGN", undone(0, "4g>"), "-");
        due("Hex of no SIGN", undone(0, "7f>"), "-");
        due("Hex of half a SIGN", undone(0, "1>"), "-");
        due("Hex of NEWLINE", undone(0, "0a>"), "\n");
        due("Hex of none", undone(0, ">"), "");
        due("Run undone", undone(1, "a~3b~1~~2~"), "abbb~~~");
        due("Run by 0", undone(1, "~0a"), "-");
        due("Run too early", undone(1, "~3"), "-");
        due("Back undone", undone(2, "ab^29^00"), "abababababa^");
        due("Back too far", undone(2, "a^21"), "-");
        due("Back of 0", undone(2, "a^10"), "-");
        due("Back by 0", undone(2, "a^01"), "-");
        due("Back too early", undone(2, "a^1"), "-");
        due("longer than 500", undone(1, times(55, "~9a") + "aaaaaa"), "-");
        due("500", undone(1, times(55, "~9a") + "aaaaa"), times(500, "a"));
        argumentText("filter 3", () -> x.filtered(3, false));
        argumentText("filter -1", () -> x.filtered(-1, true));
    }

    private static String undone(int filter, String text) {
        type(text);
        return x.filtered(filter, true);
    }

    private static void texts() {
        start(7);
        file(3, "abcabc");
        due("size", x.size(3), 6);
        index("size", () -> x.size(4));
        index("size", () -> x.size(-1));
        start(8);
        file(0, times(15, "0123456789"));
        due("text", x.text(0, 45), times(15, "0123456789").substring(45, 145));
        due("text of the rest", x.text(0, 148), "89");
        due("text of the end", x.text(0, 150), "");
        indexText("behind the end", () -> x.text(0, 151));
        indexText("ahead", () -> x.text(0, -1));
        indexText("no FILE", () -> x.text(4, 0));
        start(9);
        file(0, "ababab");
        type("ab");
        due("place", x.place(0, 0), 0);
        due("place from there", x.place(0, 1), 2);
        due("no place", x.place(0, 5), -1);
        due("at the end", x.place(0, 6), -1);
        say(300);
        due("of nothing", x.place(0, 6), 6);
        index("behind the end", () -> x.place(0, 7));
        index("no FILE", () -> x.place(-1, 0));
    }

    private static void changesOfFiles() {
        start(10);
        file(0, "abc");
        due("hurt", x.hurt(0, 2, 10), 99);
        due("text", x.text(0, 0), "ab\n");
        index("behind it", () -> x.hurt(0, 3, 65));
        index("of none", () -> x.hurt(1, 0, 65));
        index("no FILE goes ahead", () -> x.hurt(4, 0, 9));
        argument("no SIGN", () -> x.hurt(0, 0, 127));
        argument("no SIGN", () -> x.hurt(0, 0, 9));
        start(11);
        file(0, "abcdef");
        due("cut", x.cut(0, 4), 2);
        due("text", x.text(0, 0), "abcd");
        due("cut none", x.cut(0, 4), 0);
        index("longer", () -> x.cut(0, 5));
        index("below 0", () -> x.cut(0, -1));
        index("no FILE", () -> x.cut(4, 0));
        start(12);
        file(0, "ad");
        type("bc");
        due("put", x.put(0, 1), 4);
        due("text", x.text(0, 0), "abcd");
        due("behind all", x.put(0, 4), 6);
        index("behind the end", () -> x.put(0, 7));
        index("no FILE", () -> x.put(-1, 0));
        start(12);
        type(times(200, "a"));
        for (int k = 0; k < 30; k++) {
            x.put(0, 0);
        }
        due("6000", x.size(0), 6000);
        due("more than 6000", x.put(0, 0), -9);
        say(300);
        due("nothing to 6000", x.put(0, 0), 6000);
        start(13);
        file(0, "abc");
        due("copyFile", x.copyFile(1, 0), 3);
        due("text", x.text(1, 0), "abc");
        due("itself", x.copyFile(1, 1), 3);
        x.hurt(1, 0, 65);
        due("the other one stays", x.text(0, 0), "abc");
        index("no FILE", () -> x.copyFile(4, 0));
        index("no FILE", () -> x.copyFile(0, 4));
    }

    private static void fresh() {
        start(14);
        define(0, 9, "5");
        x.lock(0, 3, 0);
        x.write(0, 0, false);
        due("fresh", x.fresh(0), 3);
        due("OBJECTS", x.ofDoc(0, 0), 2);
        due("LOCK", x.ofDoc(0, 6), 0);
        due("HOME", x.ofDoc(0, 8), -1);
        due("OBJECT", x.object(0, 9), "");
        x.undo();
        due("it is a CHANGE", x.object(0, 9), "5");
        index("no DOCUMENT", () -> x.fresh(2));
        index("no DOCUMENT", () -> x.fresh(-1));
    }

    private static final String NEW_TABLE = "table\n1 4\n2 39\nlast\n<</Root 1 R /Size 3>>\nstart\n81\n%E\n";
    private static final String NEW_BODIES = "%D1\n1 o\n<</Kind /Root /Pages 2 R>>\nend\n"
            + "2 o\n<</Count 0 /Kids [] /Kind /Tree>>\nend\n";

    private static void write() {
        start(15);
        String due = NEW_BODIES + NEW_TABLE;
        due("length", x.write(0, 2, false), due.length());
        due("FILE", whole(2), due);
        due("HOME", x.ofDoc(0, 8), 2);
        due("no CHANGE", x.house(2), 0);
        define(0, 3, "5");
        x.write(0, 2, false);
        due("what can not be come to is not WRITTEN", whole(2), due);
        define(0, 1, "<</Kind /Root /Pages 2 R /S 3 R>>");
        stream(0, 3, "a\nb");
        x.lock(0, 1, 5);
        x.write(0, 2, false);
        String text = whole(2);
        due("STREAM", text.contains("\n3 o\n<</Len 3>>\ndata\na\nb\nend\ntable\n"), true);
        due("LOCK", text.contains("last\n<</Lock <</Code 10 /Lets 5>> /Root 1 R /Size 4>>\nstart\n"), true);
        define(0, 3, "<</Kind /Pack>>");
        stream(0, 3, "");
        due("a STREAM of Kind /Pack", x.write(0, 2, false), -9);
        due("the FILE stays", whole(2), text);
        x.drop(0, 1);
        due("without its ROOT", x.write(0, 3, false), 48 + "/Lock <</Code 10 /Lets 5>> ".length());
        due("Size", whole(3).contains("/Size 1>>"), true);
        index("no DOCUMENT", () -> x.write(2, 0, false));
        index("no FILE", () -> x.write(0, 4, false));
    }

    private static void packs() {
        start(15);
        define(0, 1, "<</Kind /Root /Pages 2 R /A [4 R 5 R 7 R]>>");
        define(0, 4, "(aaaa)");
        stream(0, 5, "x");
        define(0, 7, "null");
        define(0, 3, "1");
        x.write(0, 0, true);
        String pack = "1 <</A [4 R 5 R 7 R] /Kind /Root /Pages 2 R>>\n2 <</Count 0 /Kids [] /Kind /Tree>>\n4 (~4a)\n7 null\n";
        due("the FILE", whole(0), "%D1\n5 o\n<</Len 1>>\ndata\nx\nend\n6 o\n<</Count 4 /Filter /Run /Kind /Pack /Len "
                + pack.length() + ">>\ndata\n" + pack + "\nend\ntable\n1 p6.0\n2 p6.1\n4 p6.2\n5 4\n6 30\n7 p6.3\nlast\n"
                + "<</Root 1 R /Size 8>>\nstart\n" + (30 + 4 + 46 + 5 + pack.length() + 5) + "\n%E\n");
        for (int n = 8; n <= 60; n++) {
            define(0, n, "1");
        }
        due("one number is left", x.write(0, 0, true) > 0, true);
        define(0, 6, "1");
        due("no number is left", x.write(0, 0, true), -9);
        x.drop(0, 60);
        define(0, 8, "(" + times(40, "ab").substring(40) + ")");
        String strings = times(4, "(" + "abcdefghij".repeat(4) + ")");
        define(0, 7, "[" + strings + "]");
        define(0, 4, "[" + strings + "]");
        define(0, 2, "[" + strings + "]");
        due("a TEXT longer than 500", x.write(0, 0, true), -9);
        due("without PACKS", x.write(0, 0, false) > 500, true);
    }

    private static void update() {
        start(16);
        due("without a HOME", x.update(0), -9);
        x.write(0, 0, false);
        due("nothing new", x.update(0), 0);
        int prev = NEW_BODIES.length();
        String old = whole(0);
        define(0, 3, "7");
        due("new, but not come to", x.update(0), 0);
        define(0, 1, "<</A 3 R /Kind /Root /Pages 2 R>>");
        int length = x.update(0);
        String bodies = old + "1 o\n<</A 3 R /Kind /Root /Pages 2 R>>\nend\n3 o\n7\nend\n";
        String due = bodies + "table\n1 " + old.length() + "\n3 " + (old.length() + 42) + "\nlast\n<</Prev " + prev
                + " /Root 1 R /Size 4>>\nstart\n" + bodies.length() + "\n%E\n";
        due("FILE", whole(0), due);
        due("length", length, due.length());
        due("again", x.update(0), 0);
        define(0, 1, "<</Kind /Root /Pages 2 R>>");
        x.update(0);
        String gone = whole(0).substring(due.length());
        due("gone", gone.contains("table\n1 " + due.length() + "\n3 -\nlast\n<</Prev " + bodies.length()
                + " /Root 1 R /Size 4>>"), true);
        due("READ", x.read(0, 1), 2);
        x.lock(0, 0, 3);
        x.update(0);
        due("just the LOCK", whole(0).contains("table\nlast\n<</Lock <</Code 3 /Lets 3>> /Prev "), true);
        x.lock(0, 0, 4);
        due("other Lets", x.update(0) > 0, true);
        x.lock(0, 97, 4);
        due("the same Code of another KEY", x.update(0), 0);
        x.lock(0, 1, 4);
        due("another Code", x.update(0) > 0, true);
        x.lock(0, -1, 0);
        due("no LOCK any more", x.update(0) > 0, true);
        due("nothing new again", x.update(0), 0);
        x.hurt(0, 0, 65);
        due("another text", x.update(0), -9);
        x.hurt(0, 0, '%');
        due("its text again", x.update(0), 0);
        define(0, 1, "<</Kind /Root /Pages 2 R /P 4 R>>");
        define(0, 4, "<</Kind /Pack>>");
        stream(0, 4, "");
        due("a STREAM of Kind /Pack", x.update(0), -9);
        start(16);
        file(0, NEW_BODIES + "3 o\n5\nend\n" + "table\n1 4\n2 39\n3 81\nlast\n<</Root 1 R>>\nstart\n91\n%E\n");
        x.read(0, 0);
        due("what can not be come to is told as gone", x.update(0) > 0, true);
        due("so", whole(0).contains("table\n3 -\nlast\n<</Prev 91 /Root 1 R /Size 4>>"), true);
        start(16);
        define(0, 60, "5");
        x.write(0, 0, false);
        define(0, 1, "<</Pages 60 R>>");
        x.update(0);
        due("number 60 is new", whole(0).contains("\n60 o\n5\nend\n"), true);
        define(0, 1, "<</Pages 2 R>>");
        x.update(0);
        due("number 60 is gone", whole(0).contains("\n60 -\nlast\n"), true);
        define(0, 60, "<</Kind /Pack>>");
        stream(0, 60, "");
        define(0, 1, "<</Pages 60 R>>");
        due("number 60 is of Kind /Pack", x.update(0), -9);
        index("no DOCUMENT", () -> x.update(2));
    }

    private static String at(String bodies, String table) {
        return bodies + table + "start\n" + bodies.length() + "\n%E\n";
    }

    private static void read() {
        start(17);
        file(1, at(NEW_BODIES, "table\n01 4\n0002 0039\nlast\n\n <</Root 01 R\n/Lock<</Code 38/Lets 4>>>>\n"));
        due("OBJECTS", x.read(1, 0), 2);
        due("HOME", x.ofDoc(0, 8), 1);
        due("LOCK", x.ofDoc(0, 6), 1);
        due("Lets", x.ofDoc(0, 9), 4);
        due("not OPEN", x.ofDoc(0, 7), 0);
        due("a CHANGE", x.house(2), 1);
        file(1, at(NEW_BODIES, "table\n1 4\n2 39\nlast\n<</Root 1 R /Lock <</Code 3>>>>\n"));
        x.read(1, 0);
        due("no LOCK", x.ofDoc(0, 6), 0);
        file(1, "x");
        due("a FAULT", x.read(1, 0), -1);
        due("no CHANGE", x.house(2), 2);
        index("no FILE", () -> x.read(4, 0));
        index("no DOCUMENT", () -> x.read(0, 2));
    }

    private static void readFaults() {
        start(19);
        String end = "last\n<</Root 1 R>>\n";
        String good = at(NEW_BODIES, "table\n1 4\n2 39\n" + end);
        due("none", faultOfFile(good), 0);
        due("begin", faultOfFile("%D2\n"), 1);
        due("nothing", faultOfFile(""), 1);
        due("end", faultOfFile(good + "\n"), 2);
        due("five digits", faultOfFile(NEW_BODIES + "table\n1 4\n2 39\n" + end + "start\n00081\n%E\n"), 2);
        due("no digit", faultOfFile(NEW_BODIES + "start\n\n%E\n"), 2);
        due("no TABLE there", faultOfFile(NEW_BODIES + "table\n1 4\n2 39\n" + end + "start\n80\n%E\n"), 3);
        due("far behind", faultOfFile(NEW_BODIES + "table\n1 4\n2 39\n" + end + "start\n9999\n%E\n"), 3);
        due("numbers that do not rise", faultOfFile(at(NEW_BODIES, "table\n2 39\n1 4\n" + end)), 3);
        due("a number twice", faultOfFile(at(NEW_BODIES, "table\n1 4\n1 4\n" + end)), 3);
        due("number 0", faultOfFile(at(NEW_BODIES, "table\n0 4\n1 4\n" + end)), 3);
        due("five digits", faultOfFile(at(NEW_BODIES, "table\n1 00004\n" + end)), 3);
        due("no last", faultOfFile(at(NEW_BODIES, "table\n1 4\n<</Root 1 R>>\n")), 3);
        due("two BLANKS", faultOfFile(at(NEW_BODIES, "table\n1  4\n" + end)), 3);
        due("behind the TRAILER", faultOfFile(at(NEW_BODIES, "table\n1 4\nlast\n<</Root 1 R>> \n")), 3);
        due("another start", faultOfFile(NEW_BODIES + "table\n1 4\n2 39\n" + end + "start\n0\n%E\nstart\n"
                + NEW_BODIES.length() + "\n%E\n"), 0);
        due("TRAILER is no VALUE", faultOfFile(at(NEW_BODIES, "table\n1 4\nlast\n<</Root 1 R>\n")), 4);
        due("TRAILER is no BOOK", faultOfFile(at(NEW_BODIES, "table\n1 4\nlast\n[1 R]\n")), 4);
        due("no Root", faultOfFile(at(NEW_BODIES, "table\n1 4\nlast\n<</Root 1>> \n")), 4);
        due("Prev is no INTEGER", faultOfFile(at(NEW_BODIES, "table\n1 4\n2 39\nlast\n<</Root 1 R /Prev 1 R>>\n")), 4);
        due("Prev is no place", faultOfFile(at(NEW_BODIES, "table\n1 4\n2 39\nlast\n<</Root 1 R /Prev 4>>\n")), 4);
        due("Prev is itself", faultOfFile(at(NEW_BODIES, "table\n1 4\n2 39\nlast\n<</Root 1 R /Prev 81>>\n")), 4);
        String older = at(NEW_BODIES, "table\n1 4\n2 39\n3 99\nlast\n<<>>\n");
        int prev = NEW_BODIES.length();
        due("older TABLE", faultOfFile(at(older, "table\n3 -\nlast\n<</Root 1 R /Prev " + prev + ">>\n")), 0);
        due("its place does not count", x.read(0, 0), 2);
        due("its place counts", faultOfFile(at(older, "table\nlast\n<</Root 1 R /Prev " + prev + ">>\n")), 5);
        due("older TABLE is wrong", faultOfFile(at(older.replace("2 39", "2x39"),
                "table\n3 -\nlast\n<</Root 1 R /Prev " + prev + ">>\n")), 4);
        due("another BODY", faultOfFile(at(NEW_BODIES, "table\n1 39\n2 39\n" + end)), 5);
        due("no BODY", faultOfFile(at(NEW_BODIES, "table\n1 5\n2 39\n" + end)), 5);
        due("Root is gone", faultOfFile(at(NEW_BODIES, "table\n1 -\n2 39\n" + end)), 6);
        due("Root is not told", faultOfFile(at(NEW_BODIES, "table\n2 39\n" + end)), 6);
        String stream = "%D1\n001 o\n \n<</Len %s>>\ndata\nabc\nend\n";
        due("STREAM", faultOfFile(at(stream.replace("%s", "3"), "table\n1 4\n" + end)), 0);
        due("too short", faultOfFile(at(stream.replace("%s", "2"), "table\n1 4\n" + end)), 5);
        due("Len below 0", faultOfFile(at(stream.replace("%s", "-1"), "table\n1 4\n" + end)), 5);
        due("no Len", faultOfFile(at(stream.replace("%s", "/A"), "table\n1 4\n" + end)), 5);
        due("a BLANK behind the VALUE", faultOfFile(at("%D1\n1 o\n5 \nend\n", "table\n1 4\n" + end)), 5);
        due("DATA longer than 500", faultOfFile(at("%D1\n1 o\n<</Len 501>>\ndata\n" + times(501, "a") + "\nend\n",
                "table\n1 4\n" + end)), 5);
        due("DATA of 500", faultOfFile(at("%D1\n1 o\n<</Len 500>>\ndata\n" + times(500, "a") + "\nend\n",
                "table\n1 4\n" + end)), 0);
        index("no FILE", () -> x.faultOf(4));
    }

    private static String pack(String text) {
        return "%D1\n9 o\n<</Kind /Pack/Len " + text.length() + ">>\ndata\n" + text + "\nend\n";
    }

    private static int packFault(String text, String lines) {
        return faultOfFile(at(pack(text), "table\n" + lines + "last\n<</Root 1 R>>\n"));
    }

    private static void readPacks() {
        start(19);
        String text = "1 <</A 1>>\n02 \n (b)\n";
        due("PACK", packFault(text, "1 p9.0\n2 p09.01\n9 4\n"), 0);
        x.read(0, 0);
        due("OBJECTS", x.ofDoc(0, 0), 2);
        due("packed", x.object(0, 2), "(b)");
        due("a PACK is no OBJECT", x.object(0, 9), "");
        due("no place of the PACK", packFault(text, "1 p9.0\n"), 5);
        due("the PACK is gone", packFault(text, "1 p9.0\n9 -\n"), 5);
        due("without that place", packFault(text, "1 p9.2\n9 4\n"), 5);
        due("another number there", packFault(text, "1 p9.1\n9 4\n"), 5);
        due("nothing in its form ahead", packFault("2  1\nx\n1 5\n", "1 p9.2\n9 4\n"), 5);
        due("nothing in its form behind", packFault("1 5\nx\n", "1 p9.0\n9 4\n"), 0);
        due("no PACK", faultOfFile(at(pack(text).replace("Pack", "Pa"), "table\n1 p9.0\n9 4\nlast\n<</Root 1 R>>\n")), 5);
        due("BROKEN", faultOfFile(at(pack(text).replace("/Len", "/Filter/Hex/Len"),
                "table\n1 p9.0\n9 4\nlast\n<</Root 1 R>>\n")), 5);
        due("Root is a PACK", faultOfFile(at(pack(text), "table\n9 4\nlast\n<</Root 9 R>>\n")), 6);
    }

    private static void repair() {
        start(18);
        file(0, "%D1\n1 o\n<</Kind /Root>>\nend\nx\n2 o\n(a)\nend\n2 o\n(b)\nend\n3 o\n5 \nend\n4 o\n(c)\nend");
        due("OBJECTS", x.repair(0, 0), 2);
        due("the later one", x.object(0, 2), "(b)");
        due("not whole", x.object(0, 4), "");
        due("ROOT", x.ofDoc(0, 3), 1);
        due("HOME", x.ofDoc(0, 8), -1);
        due("a CHANGE", x.house(2), 1);
        file(0, "1 o\n<</Kind /Root>>\nend\n2 o\n(b)\nend\n<</Root 2 R>> x\n <</Root 3 R>>\n");
        x.repair(0, 0);
        due("ROOT of a TRAILER", x.ofDoc(0, 3), 2);
        file(0, "<</Root 2 R /Lock <</Code 3/Lets 1>>>>\n2 o\n(b)\nend\n3 o\n<</Len 14>>\ndata\n\n<</Root 3 R>>\nend\n");
        x.repair(0, 0);
        due("no TRAILER in a BODY", x.ofDoc(0, 3), 2);
        due("no LOCK", x.ofDoc(0, 6), 0);
        file(0, "2 o\n(b)\nend\n");
        due("without a ROOT", x.repair(0, 0), -9);
        due("no CHANGE", x.house(2), 3);
        String low = "5 o\n<</Kind/Pack/Len 18>>\ndata\n1 (a)\n2 (b)\n3 (c)\n\nend\n";
        String high = "9 o\n<</Kind/Pack/Len 17>>\ndata\n2 (d)\n5 (e)\nx\n6 1\nend\n";
        file(0, high + low + "3 o\n<</Kind/Root>>\nend\n");
        due("PACKS", x.repair(0, 0), 3);
        due("of the first", x.object(0, 1), "(a)");
        due("of the later one", x.object(0, 2), "(d)");
        due("a BODY goes ahead", x.object(0, 3), "<</Kind /Root>>");
        due("a PACK's BODY, too", x.object(0, 5), "");
        due("up to what is not right", x.object(0, 6), "");
        file(0, "60 o\n<</Kind/Root>>\nend\n061 o\n1\nend\n0 o\n1\nend\n");
        due("number 60, not 61", x.repair(0, 0), 1);
        due("number 60", x.object(0, 60), "<</Kind /Root>>");
        file(0, "60 o\n<</Kind/Pack/Len 23>>\ndata\n1 <</Kind/Root>>\n59 (a)\nend\n");
        due("a PACK of number 60 with a line too early", x.repair(0, 0), 1);
        file(0, "60 o\n<</Kind/Pack/Len 24>>\ndata\n1 <</Kind/Root>>\n59 (a)\n\nend\n");
        due("a PACK of number 60", x.repair(0, 0), 2);
        file(0, "1 o\n<</Kind/Root>>\nend\n60 o\n1\nend\n<</Root 60 R>>\n<</Root 59 R>>\n");
        x.repair(0, 0);
        due("ROOT of number 60", x.ofDoc(0, 3), 60);
        due("packed", x.write(0, 0, true) > 0, true);
        due("packed as 60", whole(0).contains("data\n60 1\n\nend\ntable\n2 4\n60 p2.0\nlast\n<</Root 60 R /Size 61>>"), true);
        index("no FILE", () -> x.repair(4, 0));
        index("no DOCUMENT", () -> x.repair(0, 2));
    }

    private static void objects() {
        start(20);
        define(0, 60, "[1 2]");
        due("VALUE", x.object(0, 60), "[1 2]");
        define(0, 59, "<</B 1/A 2>>");
        stream(0, 59, "abc");
        due("STREAM", x.object(0, 59), "<</A 2 /B 1>> data");
        due("none", x.object(0, 58), "");
        indexText("number", () -> x.object(0, 0));
        indexText("number", () -> x.object(0, 61));
        indexText("no DOCUMENT", () -> x.object(2, 1));
        start(21);
        stream(0, 5, "aaaa");
        x.filter(0, 5, 1, -1, -1);
        due("DATA", x.data(0, 5, false), "~4a");
        due("TEXT", x.data(0, 5, true), "aaaa");
        due("no STREAM", x.data(0, 1, false), "-");
        due("none", x.data(0, 6, true), "-");
        indexText("number", () -> x.data(0, 61, true));
        indexText("no DOCUMENT", () -> x.data(-1, 1, true));
        file(0, "1 o\n<</Kind/Root>>\nend\n2 o\n<</Filter/Run/Len 2>>\ndata\n~a\nend\n3 o\n<</Filter[/Hex/X]/Len 1>>\ndata\n>\nend\n"
                + "4 o\n<</Filter[/Run/Run/Run/Run]/Len 1>>\ndata\na\nend\n5 o\n<</Filter 1/Len 1>>\ndata\na\nend\n");
        x.repair(0, 0);
        due("BROKEN", x.data(0, 2, true), "-");
        due("its DATA", x.data(0, 2, false), "~a");
        due("another filter", x.data(0, 3, true), "-");
        due("four filters", x.data(0, 4, true), "-");
        due("no NAME", x.data(0, 5, true), "-");
        start(22);
        define(0, 3, "<</A [4 R (a 5 R) -6 9 R (\\)5 R)]>>");
        stream(0, 3, "7 R");
        define(0, 1, "<</X [<</Y 3 R>>]>>");
        for (int n = 4; n <= 9; n++) {
            define(0, n, n == 4 ? "3 R" : "1");
        }
        due("ROOT", x.isReached(0, 1), true);
        due("not now", x.isReached(0, 2), false);
        due("in a ROW", x.isReached(0, 3), true);
        due("of the BOOK of a STREAM", x.isReached(0, 4), true);
        due("in a STRING", x.isReached(0, 5), false);
        due("a number", x.isReached(0, 6), false);
        due("in DATA", x.isReached(0, 7), false);
        due("the last", x.isReached(0, 9), true);
        x.drop(0, 9);
        due("not there", x.isReached(0, 9), false);
        x.drop(0, 1);
        due("without ROOT", x.isReached(0, 3), false);
        dueThrow("number", IndexOutOfBoundsException.class, () -> x.isReached(0, 0));
        dueThrow("no DOCUMENT", IndexOutOfBoundsException.class, () -> x.isReached(2, 1));
    }

    private static void changesOfObjects() {
        start(23);
        type("null");
        due("new", x.define(0, 9), 0);
        due("NOTHING is there", x.object(0, 9), "null");
        due("there was one", x.define(0, 9), 1);
        type("[");
        due("a FAULT", x.define(0, 9), -7);
        due("no CHANGE", x.house(2), 2);
        index("number", () -> x.define(0, 61));
        index("no DOCUMENT", () -> x.define(2, 1));
        start(24);
        type("x");
        due("new", x.stream(0, 9), 0);
        due("empty BOOK", x.object(0, 9), "<<>> data");
        define(0, 9, "<</Filter /Hex /Len 4 /A 1>>");
        type("");
        due("there was one", x.stream(0, 9), 1);
        due("its BOOK", x.object(0, 9), "<</A 1>> data");
        due("its DATA", x.data(0, 9, false), "");
        define(0, 8, "[1]");
        stream(0, 8, "");
        due("no BOOK", x.object(0, 8), "<<>> data");
        String nine = "/A 1/B 1/C 1/D 1/E 1/F 1/G 1/H 1/I 1";
        define(0, 8, "<<" + nine + "/J 1>>");
        due("10 NAMES", x.stream(0, 8), -9);
        define(0, 8, "<<" + nine + "/Len 1>>");
        due("9 NAMES", x.stream(0, 8), 1);
        index("number", () -> x.stream(0, 0));
        index("no DOCUMENT", () -> x.stream(-1, 1));
        start(25);
        due("dropped", x.drop(0, 1), 1);
        due("not there", x.drop(0, 1), 0);
        due("both are CHANGES", x.house(2), 2);
        index("number", () -> x.drop(0, 0));
        index("no DOCUMENT", () -> x.drop(2, 1));
        start(27);
        define(0, 5, "1");
        define(0, 2, "6 R");
        define(0, 6, "1");
        due("swept", x.sweep(0), 1);
        due("stays", x.object(0, 6), "1");
        due("none", x.sweep(0), 0);
        x.drop(0, 1);
        due("all", x.sweep(0), 2);
        index("no DOCUMENT", () -> x.sweep(2));
    }

    private static void filtersOfStreams() {
        start(26);
        stream(0, 3, "aaaaabcabcabc");
        due("one", x.filter(0, 3, 2, -1, -1), 9);
        due("told", x.object(0, 3), "<</Filter [/Back]>> data");
        due("DATA", x.data(0, 3, false), "a^14bc^36");
        due("three", x.filter(0, 3, 0, 1, 2), 19);
        due("told", x.object(0, 3), "<</Filter [/Hex /Run /Back]>> data");
        due("DATA", x.data(0, 3, false), "615e313462635e3336>");
        due("TEXT", x.data(0, 3, true), "aaaaabcabcabc");
        due("without", x.filter(0, 3, -1, -1, -1), 13);
        due("told", x.object(0, 3), "<<>> data");
        due("no STREAM", x.filter(0, 1, 0, -1, -1), -9);
        due("none", x.filter(0, 9, 0, -1, -1), -9);
        argument("behind none", () -> x.filter(0, 3, -1, 0, -1));
        argument("behind none", () -> x.filter(0, 3, 0, -1, 0));
        argument("none of these", () -> x.filter(0, 3, 3, -1, -1));
        argument("none of these", () -> x.filter(0, 3, 0, -2, -1));
        index("number goes ahead", () -> x.filter(0, 61, 3, -1, -1));
        index("no DOCUMENT", () -> x.filter(2, 3, 0, -1, -1));
        define(0, 4, "<</A 1/B 1/C 1/D 1/E 1/F 1/G 1/H 1/I 1>>");
        stream(0, 4, "abc");
        due("10 NAMES", x.filter(0, 4, 0, -1, -1), -9);
        stream(0, 5, times(20, "abcdefghij"));
        due("two Hex", x.filter(0, 5, 0, 0, -1), -9);
        due("one Hex", x.filter(0, 5, 0, -1, -1), 401);
        stream(0, 6, times(166, "~") + "ab");
        x.filter(0, 6, -1, -1, -1);
        stream(0, 6, "~a~b".repeat(41) + "~c");
        due("Run makes them longer", x.filter(0, 6, 1, -1, -1), 41 * 8 + 4);
        due("and again", x.filter(0, 6, 1, 1, -1), -9);
        stream(0, 6, "~a".repeat(83) + "b".repeat(2));
        due("334", x.filter(0, 6, 1, -1, -1), 83 * 4 + 2);
        stream(0, 6, "~a".repeat(62) + "b");
        due("500 of two", x.filter(0, 6, 1, 1, -1), 62 * 8 + 1);
        stream(0, 6, "~a".repeat(62) + "bacd");
        due("500 of two", x.filter(0, 6, 1, 1, -1), 500);
        stream(0, 6, "~a".repeat(62) + "bacde");
        due("501 of two", x.filter(0, 6, 1, 1, -1), -9);
    }

    private static void trees() {
        start(28);
        define(0, 2, "<</Kind /Tree/Kids[3 R 4 (x) 5 R 3 R 2 R 9 R 6 R]/Box[1 -2 3 4]/Turn -1/Forms<</A 7 R>>>>");
        define(0, 3, "<</Kind /Page/Box[0 0 41 1]/Turn /A>>");
        define(0, 4, "<</Kind /Page>>");
        define(0, 5, "<</Kind /Tree/Kids[4 R]/Turn 6>>");
        define(0, 6, "<</Kind /Page/Box[5 6 40 1]/Turn 5>>");
        stream(0, 6, "");
        define(0, 9, "<</Kind /Page/Box[5 6 40 1]/Turn 5/Forms 3>>");
        due("PAGES", x.ofDoc(0, 2), 3);
        due("OBJECT", x.ofPage(0, 0, 0), 3);
        due("x of the TREE", x.ofPage(0, 0, 1), 1);
        due("y", x.ofPage(0, 0, 2), -2);
        due("w", x.ofPage(0, 0, 3), 3);
        due("h", x.ofPage(0, 0, 4), 4);
        due("TURN of the TREE", x.ofPage(0, 0, 5), 3);
        due("of the nearest", x.ofPage(0, 1, 5), 2);
        due("OBJECT in a TREE", x.ofPage(0, 1, 0), 4);
        due("its own", x.ofPage(0, 2, 3), 40);
        due("its own TURN", x.ofPage(0, 2, 5), 1);
        due("a STREAM is none", x.ofPage(0, 2, 0), 9);
        define(0, 2, "<</Kind /Tree/Kids[4 R]>>");
        due("without x", x.ofPage(0, 0, 1), 0);
        due("without w", x.ofPage(0, 0, 3), 20);
        due("without TURN", x.ofPage(0, 0, 5), 0);
        index("no PAGE", () -> x.ofPage(0, 1, 0));
        index("no PAGE goes ahead", () -> x.ofPage(0, -1, 9));
        index("no DOCUMENT", () -> x.ofPage(2, 0, 0));
        argument("what", () -> x.ofPage(0, 0, 9));
        argument("what", () -> x.ofPage(0, 0, -1));
        for (int n = 10; n <= 15; n++) {
            define(0, n, "<</Kind /Tree/Kids[" + (n + 1) + " R]>>");
        }
        define(0, 16, "<</Kind /Page>>");
        define(0, 1, "<</Pages 10 R>>");
        due("7 deep", x.ofDoc(0, 2), 0);
        define(0, 1, "<</Pages 11 R>>");
        due("6 deep", x.ofDoc(0, 2), 1);
        stream(0, 1, "");
        due("a STREAM as ROOT", x.ofDoc(0, 2), 1);
        define(0, 1, "<</Pages 16 R>>");
        due("just a PAGE", x.ofPage(0, 0, 0), 16);
        define(0, 1, "[16 R]");
        due("no BOOK", x.ofDoc(0, 2), 0);
    }

    /** PAGE 0 of DOCUMENT 0 gets a CONTENT of its own. */
    private static void content(String text) {
        stream(0, 30, text);
    }

    private static void page(int w, int h) {
        x.newPage(0, 0, w, h);
        define(0, 3, "<</Kind /Page/Box[0 0 " + w + " " + h + "]/Parts 30 R/Forms<</A 31 R/B 32 R/C 33 R>>>>");
    }

    private static String marks() {
        StringBuilder told = new StringBuilder();
        int many = x.ofPage(0, 0, 6);
        for (int k = 0; k < many; k++) {
            told.append(k > 0 ? "|" : "").append(x.mark(0, 0, k));
        }
        int fault = x.ofPage(0, 0, 7);
        return fault < 0 ? told.toString() : told + "!" + fault;
    }

    private static void contentDue(String text, String want) {
        content(text);
        due(text, marks(), want);
    }

    private static void contents() {
        start(29);
        page(12, 9);
        contentDue("1 2 3 4 B", "B 1 2 3 4");
        contentDue("-1 -1 3 4 B 11 8 5 5 B 12 0 1 1 B", "B 0 0 2 3|B 11 8 1 1");
        contentDue("0 0 0 1 B", "!8");
        contentDue("0 0 1 B", "!6");
        contentDue("(a) T 2 Z (bc) T", "L a 0 0 2 1|L b 2 0 6 2|L c 8 0 2 2");
        contentDue("-1 8 P(b)T 3 Z -9 0 P(b)T 12 0 P(a)T", "L b -1 8 3 1");
        contentDue("1000 Z", "!5");
        contentDue("0 Z", "!2");
        contentDue("999 Z 2 0 0 M () T", "!17");
        contentDue("999 Z 1 0 0 M (\\)) T", "L ) 0 0 2997 999");
        contentDue("q 2 1 1 M 1 1 1 1 B Q 1 1 1 1 B", "B 3 3 2 2|B 1 1 1 1");
        contentDue("3 1 1 M 3 1 1 M 0 0 1 1 B 2 0 0 M", "B 4 4 8 5!32");
        contentDue("0 1 1 M", "!6");
        contentDue("10 1 1 M", "!7");
        contentDue("1 9999 -9999 M 1 0 0 M 1 1 0 M", "!29");
        contentDue("1 -9999 9999 M 1 0 0 M 9999 -9999 1 1 B", "B 0 0 1 1");
        contentDue("1 -9999 0 M 1 -1 0 M", "!19");
        contentDue("1 0 9999 M 1 0 1 M", "!17");
        contentDue("1 0 -9999 M 1 0 -1 M", "!19");
        contentDue("2 2 3 3 C 0 0 9 9 B 4 4 9 9 C 0 0 9 9 B 0 0 1 1 C 0 0 9 9 B", "B 2 2 3 3|B 4 4 1 1");
        contentDue("0 0 1 0 C", "!8");
        contentDue("1 1 2 2 C 2 Z (aa) T", "L a 0 0 4 2");
        contentDue("q q q q q q q q", "");
        contentDue("q q q q q q q q q", "!16");
        contentDue("q 1 1 1 1 C 5 Z 3 3 P Q (a) T 0 0 2 2 B", "L a 0 0 2 1|B 0 0 2 2");
        contentDue("Q", "!0");
        contentDue("1 q", "!2");
        contentDue("1 2 3 4 5 6 7 8", "");
        contentDue("1 2 3 4 5 6 7 8 9", "!16");
        contentDue("1 3 R", "!2");
        contentDue("61 R", "!3");
        contentDue("12345 Z", "!0");
        contentDue(" [1]", "!1");
        contentDue("true", "!0");
        contentDue("(a", "!0");
        contentDue("/Abcdefg X", "!0");
        contentDue("0 0 1 1 B w 0 0 1 1 B", "B 0 0 1 1!10");
        contentDue("(a) (b) T", "!8");
        contentDue("(a) 1 P", "!6");
        contentDue("6 0 P (" + times(30, "a") + ") T", "L a 6 0 2 1|L a 8 0 2 1|L a 10 0 2 1");
        contentDue(times(24, "0 0 1 1B") + "w", times(24, "|B 0 0 1 1").substring(1) + "!192");
        contentDue("(" + times(26, "b") + ") T", "L b 0 0 3 1|L b 3 0 3 1|L b 6 0 3 1|L b 9 0 3 1");
        content(times(19, "0 0 9 9 B "));
        x.addPart(0, 0);
        due("24 MARKS at most", x.ofPage(0, 0, 6), 24);
        indexText("the 25th", () -> x.mark(0, 0, 24));
        indexText("below 0", () -> x.mark(0, 0, -1));
        indexText("no PAGE", () -> x.mark(0, 1, 0));
        indexText("no DOCUMENT", () -> x.mark(2, 0, 0));
        start(31);
        page(9, 9);
        content("a");
        stream(0, 31, "b");
        define(0, 3, "<</Kind /Page/Parts[30 R 5 31 R 60 R 2 R]>>");
        due("CONTENT", x.content(0, 0), "a\n\nb\n\n");
        define(0, 3, "<</Kind /Page/Parts 2 R>>");
        due("no STREAM", x.content(0, 0), "");
        define(0, 3, "<</Kind /Page>>");
        due("none", x.content(0, 0), "");
        indexText("no PAGE", () -> x.content(0, 1));
        indexText("no DOCUMENT", () -> x.content(-1, 0));
    }

    private static void letterForm(int object, String text) {
        define(0, object, "<</Kind /Form>>");
        stream(0, object, text);
    }

    private static void forms() {
        start(29);
        page(20, 20);
        letterForm(31, "1 1 1 1 B 3 Z 9 9 P q q w 5 5 5 5 B");
        contentDue("2 2 2 M /A X (a) T 0 0 1 1 B", "B 4 4 2 2|L a 2 2 4 2|B 2 2 2 2");
        contentDue("/B X /Z X 0 0 1 1 B", "B 0 0 1 1");
        contentDue("X", "!0");
        contentDue("(A) X", "!4");
        contentDue("1 /A X", "!5");
        letterForm(31, "Q 1 1 1 1 B");
        contentDue("q /A X Q 2 2 1 1 B", "B 2 2 1 1");
        letterForm(31, "0 0 1 1 B 1 1 1 M /A X");
        contentDue("/A X", "B 0 0 1 1|B 1 1 1 1|B 2 2 1 1|B 3 3 1 1");
        stream(0, 33, "0 0 1 1 B");
        contentDue("/C X", "");
        letterForm(31, "/B X /B X");
        letterForm(32, "0 0 1 1 B");
        contentDue(times(8, "/A X "), times(16, "|B 0 0 1 1").substring(1));
        letterForm(32, "");
        letterForm(33, "0 0 1 1 B");
        contentDue("/A X /A X " + times(11, "/B X ") + times(11, "/B X ") + "/C X", "B 0 0 1 1");
        letterForm(31, "/B X /B X /B X /B X /B X /B X /B X");
        contentDue(times(7, "/A X ") + times(7, "/B X ") + "/C X /C X", "B 0 0 1 1");
        contentDue(times(7, "/A X ") + times(8, "/B X ") + "/C X", "");
        start(41);
        page(9, 9);
        type("0 0 1 1 B");
        due("form", x.form(0, 0, 25), 4);
        due("PAGE", x.object(0, 3), "<</Box [0 0 9 9] /Forms <</A 31 R /B 32 R /C 33 R /Z 4 R>> /Kind /Page /Parts 30 R>>");
        due("STREAM", x.object(0, 4), "<</Kind /Form>> data");
        x.form(0, 0, 0);
        due("in its place", x.object(0, 3).contains("/A 5 R /B 32 R"), true);
        define(0, 3, "<</Kind /Page>>");
        define(0, 2, "<</Kind /Tree/Kids[3 R]/Forms<</A 9 R>>>>");
        x.form(0, 0, 1);
        due("with all that it has", x.object(0, 3), "<</Forms <</A 9 R /B 6 R>> /Kind /Page>>");
        define(0, 3, "<</Kind /Page/Forms<</A 1/B 1/C 1/D 1/E 1/F 1/G 1/H 1/I 1/J 1>>>>");
        due("11 FORMS", x.form(0, 0, 10), -9);
        due("10 FORMS", x.form(0, 0, 9), 7);
        argument("letter", () -> x.form(0, 0, 26));
        argument("letter", () -> x.form(0, 0, -1));
        index("no PAGE", () -> x.form(0, 1, 26));
        index("no DOCUMENT", () -> x.form(2, 0, 0));
    }

    private static void drawn() {
        start(30);
        page(3, 2);
        content("0 0 2 1 B 1 0 P (a) T 0 1 1 1 B");
        String[][] due = {{"#..", "#aa"}, {"##", "a.", "a."}, {"aa#", "..#"}, {".a", ".a", "##"}};
        for (int turn = 0; turn < 4; turn++) {
            for (int row = 0; row < due[turn].length; row++) {
                due("row " + row + " by " + turn, x.drawn(0, 0, row), due[turn][row]);
            }
            int rows = due[turn].length;
            indexText("no row", () -> x.drawn(0, 0, rows));
            x.turnPage(0, 0, 1);
        }
        x.boxPage(0, 0, -1, 0, 3, 1);
        due("from its least x", x.drawn(0, 0, 0), ".#a");
        indexText("no row", () -> x.drawn(0, 0, -1));
        indexText("no PAGE", () -> x.drawn(0, 1, 0));
        indexText("no DOCUMENT", () -> x.drawn(2, 0, 0));
    }

    private static void find() {
        start(32);
        page(40, 9);
        content("(aaabab) T 0 5 P (a) T 2 Z 3 5 P (b) T (ab) T");
        due("a", x.find(0, 0, 0, 0), 0);
        due("the second", x.find(0, 0, 0, 1), 1);
        due("b", x.find(0, 0, 1, 0), 3);
        due("ba", x.find(0, 0, 4, 0), 3);
        due("bab", x.find(0, 0, 17, 0), 3);
        due("no WORD", x.find(0, 0, 27, 0), -1);
        due("bb of another height", x.find(0, 0, 5, 0), -1);
        due("ba behind", x.find(0, 0, 4, 1), 7);
        due("no third ba", x.find(0, 0, 4, 2), -1);
        argument("word", () -> x.find(0, 0, 1000, 0));
        argument("word", () -> x.find(0, 0, -1, 0));
        argument("k", () -> x.find(0, 0, 0, -1));
        index("no PAGE", () -> x.find(0, 1, -1, 0));
        index("no DOCUMENT", () -> x.find(2, 0, 0, 0));
        content("(bb) T 0 0 1 1 B 9 0 P (b) T 13 0 P (b) T");
        due("shared", x.find(0, 0, 5, 0), 0);
        due("not with others between", x.find(0, 0, 5, 1), -1);
    }

    private static void pages() {
        start(33);
        due("newPage", x.newPage(0, 0, 40, 1), 3);
        due("PAGE", x.object(0, 3), "<</Box [0 0 40 1] /Kind /Page>>");
        due("ahead of it", x.newPage(0, 0, 1, 40), 4);
        due("TREE", x.object(0, 2), "<</Count 2 /Kids [4 R 3 R] /Kind /Tree>>");
        due("which", x.ofPage(0, 1, 0), 3);
        argument("at", () -> x.newPage(0, 3, 1, 1));
        argument("at", () -> x.newPage(0, -1, 1, 1));
        argument("w", () -> x.newPage(0, 0, 0, 1));
        argument("w", () -> x.newPage(0, 0, 41, 1));
        argument("h", () -> x.newPage(0, 0, 1, 0));
        argument("h", () -> x.newPage(0, 0, 1, 41));
        index("no DOCUMENT", () -> x.newPage(2, 0, 0, 0));
        for (int k = 2; k < 12; k++) {
            x.newPage(0, k, 1, 1);
        }
        due("the 13th", x.newPage(0, 0, 1, 1), -9);
        due("12", x.ofDoc(0, 2), 12);
        start(34);
        for (int k = 0; k < 3; k++) {
            x.newPage(0, k, 1, 1);
        }
        due("movePage", x.movePage(0, 0, 2), 3);
        due("TREE", x.object(0, 2), "<</Count 3 /Kids [4 R 5 R 3 R] /Kind /Tree>>");
        x.movePage(0, 2, 1);
        due("back", x.object(0, 2), "<</Count 3 /Kids [4 R 3 R 5 R] /Kind /Tree>>");
        index("page", () -> x.movePage(0, 3, 0));
        index("to", () -> x.movePage(0, 0, 3));
        index("to", () -> x.movePage(0, 0, -1));
        index("no DOCUMENT", () -> x.movePage(2, 0, 0));
        start(35);
        x.newPage(0, 0, 1, 1);
        x.newPage(0, 1, 1, 1);
        due("dropPage", x.dropPage(0, 0), 1);
        due("its OBJECT stays", x.object(0, 3), "<</Box [0 0 1 1] /Kind /Page>>");
        due("come to no more", x.isReached(0, 3), false);
        index("no PAGE", () -> x.dropPage(0, 1));
        index("no DOCUMENT", () -> x.dropPage(-1, 0));
        start(36);
        x.newPage(0, 0, 1, 1);
        due("turnPage", x.turnPage(0, 0, 3), 3);
        due("MOD 4", x.turnPage(0, 0, 2), 1);
        due("to 0", x.turnPage(0, 0, 3), 0);
        due("also 0", x.object(0, 3), "<</Box [0 0 1 1] /Kind /Page /Turn 0>>");
        define(0, 3, "<</Kind /Page/A 1/B 1/C 1/D 1/E 1/F 1/G 1/H 1/I 1>>");
        due("11 NAMES", x.turnPage(0, 0, 1), -9);
        define(0, 3, "<</Kind /Page/A 1/B 1/C 1/D 1/E 1/F 1/G 1/H 1>>");
        due("10 NAMES", x.turnPage(0, 0, 1), 1);
        due("in its place", x.turnPage(0, 0, 1), 2);
        argument("quarters", () -> x.turnPage(0, 0, 4));
        argument("quarters", () -> x.turnPage(0, 0, -1));
        index("no PAGE", () -> x.turnPage(0, 1, 4));
        index("no DOCUMENT", () -> x.turnPage(2, 0, 0));
        start(37);
        x.newPage(0, 0, 9, 9);
        x.addBox(0, 0, 1, 1, 1, 1);
        x.addBox(0, 0, 8, 8, 1, 1);
        due("MARKS then", x.boxPage(0, 0, -99, 0, 40, 40), 0);
        due("MARKS then", x.boxPage(0, 0, 1, 1, 7, 7), 1);
        due("BOX", x.object(0, 3).contains("/Box [1 1 7 7]"), true);
        argument("x", () -> x.boxPage(0, 0, 100, 0, 1, 1));
        argument("y", () -> x.boxPage(0, 0, 0, -100, 1, 1));
        argument("w", () -> x.boxPage(0, 0, 0, 0, 41, 1));
        argument("h", () -> x.boxPage(0, 0, 0, 0, 1, 0));
        index("no PAGE", () -> x.boxPage(0, 1, 100, 0, 1, 1));
        index("no DOCUMENT", () -> x.boxPage(2, 0, 0, 0, 1, 1));
    }

    private static void flat() {
        start(33);
        define(0, 2, "<</Kind /Tree/Kids[3 R 4 R]/Box[1 1 5 5]/Turn 1/Forms<</A 9 R>>/X 1>>");
        define(0, 3, "<</Kind /Page/Turn 4/Forms<<>>>>");
        define(0, 4, "<</Kind /Tree/Kids[5 R]/Turn 2>>");
        define(0, 5, "<</Kind /Page/X 1>>");
        x.movePage(0, 0, 0);
        due("TREE", x.object(0, 2), "<</Count 2 /Kids [3 R 5 R] /Kind /Tree>>");
        due("Turn of 0 and an empty Forms go", x.object(0, 3), "<</Box [1 1 5 5] /Kind /Page>>");
        due("as it has them", x.object(0, 5), "<</Box [1 1 5 5] /Forms <</A 9 R>> /Kind /Page /Turn 2 /X 1>>");
        due("a TREE stays, come to no more", x.isReached(0, 4), false);
        define(0, 1, "<</Kind /Root>>");
        due("a new TREE goes ahead", x.newPage(0, 0, 1, 1), 7);
        due("Pages lead to it", x.object(0, 1), "<</Kind /Root /Pages 6 R>>");
        define(0, 1, "<</Pages 7 R>>");
        due("at Pages is a PAGE", x.newPage(0, 1, 1, 1), 9);
        due("Pages lead to another", x.object(0, 8), "<</Count 2 /Kids [7 R 9 R] /Kind /Tree>>");
        define(0, 1, "<</Kind /Tree/Pages 1 R/Kids[7 R]>>");
        due("at Pages is the ROOT", x.newPage(0, 1, 1, 1), 11);
        due("the ROOT stays else", x.object(0, 1), "<</Kids [7 R] /Kind /Tree /Pages 10 R>>");
        stream(0, 1, "");
        due("ROOT is a STREAM", x.newPage(0, 0, 1, 1), -9);
        x.drop(0, 1);
        due("no ROOT", x.newPage(0, 0, 1, 1), -9);
        start(33);
        define(0, 1, "<</Pages 2 R>>");
        define(0, 2, "<</Kind /Page/A 1/B 1/C 1/D 1/E 1/F 1/G 1/H 1/I 1>>");
        due("11 NAMES", x.newPage(0, 0, 1, 1), -9);
        due("nothing changes", x.object(0, 3), "");
        start(33);
        for (int k = 3; k <= 60; k++) {
            define(0, k, "1");
        }
        due("no number is left", x.newPage(0, 0, 1, 1), -9);
        start(35);
        for (int k = 0; k < 13; k++) {
            define(0, 10 + k, "<</Kind /Page>>");
        }
        define(0, 2, "<</Kind /Tree/Kids[10 R 11 R 12 R 13 R 14 R 15 R 16 R 9 R]>>");
        define(0, 9, "<</Kind /Tree/Kids[17 R 18 R 19 R 20 R 21 R 22 R]>>");
        due("13 PAGES", x.ofDoc(0, 2), 13);
        due("more than can be", x.dropPage(0, 0), -9);
        due("more than can be", x.split(0, 0, 0), -9);
        due("more than can be", x.merge(1), -9);
    }

    private static void parts() {
        start(38);
        x.newPage(0, 0, 9, 9);
        type("0 0 1 1 B");
        due("addPart", x.addPart(0, 0), 4);
        due("PAGE", x.object(0, 3), "<</Box [0 0 9 9] /Kind /Page /Parts [4 R]>>");
        due("STREAM", x.object(0, 4), "<<>> data");
        due("DATA", x.data(0, 4, false), "0 0 1 1 B");
        define(0, 3, "<</Kind /Page/Parts 4 R>>");
        x.addPart(0, 0);
        due("behind a REF", x.object(0, 3), "<</Kind /Page /Parts [4 R 5 R]>>");
        define(0, 3, "<</Kind /Page/Parts[1 2 3 4 5 6 7 8 9 10 11]>>");
        due("the 12th", x.addPart(0, 0), 6);
        due("the 13th", x.addPart(0, 0), -9);
        due("nothing changes", x.object(0, 7), "");
        define(0, 3, "<</Kind /Page/Parts 5>>");
        x.addPart(0, 0);
        due("none", x.object(0, 3), "<</Kind /Page /Parts [7 R]>>");
        index("no PAGE", () -> x.addPart(0, 1));
        index("no DOCUMENT", () -> x.addPart(2, 0));
        start(39);
        x.newPage(0, 0, 9, 9);
        due("addText", x.addText(0, 0, 1, -99, 9, 999), 0);
        due("DATA", x.data(0, 4, false), "9 Z 1 -99 P (ddcbd) T");
        due("MARKS then", x.addText(0, 0, 0, 0, 1, 0), 1);
        due("DATA", x.data(0, 5, false), "1 Z 0 0 P (a) T");
        argument("x", () -> x.addText(0, 0, -100, 0, 1, 0));
        argument("y", () -> x.addText(0, 0, 0, 100, 1, 0));
        argument("size", () -> x.addText(0, 0, 0, 0, 0, 0));
        argument("size", () -> x.addText(0, 0, 0, 0, 10, 0));
        argument("word", () -> x.addText(0, 0, 0, 0, 1, 1000));
        argument("word", () -> x.addText(0, 0, 0, 0, 1, -1));
        index("no PAGE", () -> x.addText(0, 1, 0, 0, 0, 0));
        index("no DOCUMENT", () -> x.addText(2, 0, 0, 0, 1, 0));
        start(40);
        x.newPage(0, 0, 9, 9);
        due("addBox", x.addBox(0, 0, -99, 99, 99, 1), 0);
        due("DATA", x.data(0, 4, false), "-99 99 99 1 B");
        due("MARKS then", x.addBox(0, 0, 1, 1, 99, 99), 1);
        argument("x", () -> x.addBox(0, 0, 100, 0, 1, 1));
        argument("y", () -> x.addBox(0, 0, 0, -100, 1, 1));
        argument("w", () -> x.addBox(0, 0, 0, 0, 0, 1));
        argument("h", () -> x.addBox(0, 0, 0, 0, 1, 100));
        index("no PAGE", () -> x.addBox(0, 1, 0, 0, 0, 1));
        index("no DOCUMENT", () -> x.addBox(2, 0, 0, 0, 1, 1));
    }

    private static void black() {
        start(42);
        page(20, 9);
        content("1 1 2 2 B 2 Z 5 5 P (a\\)b) T 0 0 1 1 B");
        due("MARKS", marks(), "B 1 1 2 2|L a 5 5 4 2|L ) 9 5 6 2|L b 15 5 6 2|B 0 0 1 1");
        due("none", x.black(0, 0, 3, 3, 2, 2), 0);
        due("nothing changes", x.content(0, 0), "1 1 2 2 B 2 Z 5 5 P (a\\)b) T 0 0 1 1 B");
        due("black", x.black(0, 0, 2, 2, 4, 4), 2);
        due("CONTENT", x.content(0, 0), "2 Z 9 5 P (\\)) T\n2 Z 15 5 P (b) T\n0 0 1 1 B");
        due("PAGE", x.object(0, 3), "<</Box [0 0 20 9] /Forms <<>> /Kind /Page /Parts [4 R]>>");
        due("STREAM", x.object(0, 4), "<<>> data");
        due("MARKS", marks(), "L ) 9 5 6 2|L b 15 5 6 2|B 0 0 1 1");
        due("all", x.black(0, 0, -99, -99, 99, 99), 0);
        due("all", x.black(0, 0, 0, 0, 99, 99), 3);
        due("nothing is left", x.data(0, 5, false), "");
        argument("x", () -> x.black(0, 0, 100, 0, 1, 1));
        argument("y", () -> x.black(0, 0, 0, -100, 1, 1));
        argument("w", () -> x.black(0, 0, 0, 0, 0, 1));
        argument("h", () -> x.black(0, 0, 0, 0, 1, 100));
        index("no PAGE", () -> x.black(0, 1, 0, 0, 0, 1));
        index("no DOCUMENT", () -> x.black(2, 0, 0, 0, 1, 1));
        start(42);
        page(40, 40);
        define(0, 3, "<</Kind /Page/Box[-999 -999 40 40]/Parts[30 R 31 R 32 R]>>");
        content("999 Z -999 -999 P (a) T 1 Z " + times(8, "-999 -999 P (a)T "));
        stream(0, 31, times(8, "-999 -999 P (a)T "));
        stream(0, 32, times(7, "-999 -999 P (a)T "));
        due("MARKS", x.ofPage(0, 0, 6), 24);
        due("DATA longer than 500", x.black(0, 0, 0, -99, 99, 99), -9);
        due("nothing changes", x.ofPage(0, 0, 6), 24);
        stream(0, 32, times(6, "-999 -999 P (a)T "));
        due("DATA of 483", x.black(0, 0, 0, -99, 99, 99), 1);
        due("so long", x.content(0, 0).length(), 22 * 22 - 1);
        stream(0, 31, times(12, "0 0 9 9 B "));
        define(0, 3, "<</Kind /Page/Parts[31 R 31 R 30 R]>>");
        content("10 10 1 1 B");
        due("the 25th is not looked at", x.black(0, 0, 10, 10, 1, 1), 0);
        due("it stays", x.content(0, 0).length(), 119 + 1 + 120 + 1 + 11 + 1);
        due("it goes, too", x.black(0, 0, 0, 0, 1, 1), 24);
        due("nothing is left", x.content(0, 0), "");
    }

    private static void merge() {
        start(43);
        x.newPage(0, 0, 9, 9);
        x.newPage(1, 0, 5, 5);
        define(1, 3, "<</Kind /Page/Box[0 0 5 5]/A 9 R/B[9 R 7 R (7 R)]/C 7 R/D<</E 50 R>>/Up 2 R>>");
        define(1, 9, "7 R");
        stream(1, 7, "x");
        x.drop(1, 7);
        define(1, 8, "1");
        due("merge", x.merge(0), 2);
        due("TREE", x.object(0, 2), "<</Count 2 /Kids [3 R 5 R] /Kind /Tree>>");
        due("the TREE of the other one", x.object(0, 4), "<</Count 1 /Kids [5 R] /Kind /Tree>>");
        due("PAGE", x.object(0, 5), "<</A 6 R /B [6 R null (7 R)] /Box [0 0 5 5] /D <<>> /Kind /Page /Up 4 R>>");
        due("to what is not there", x.object(0, 6), "null");
        due("OBJECTS", x.ofDoc(0, 0), 6);
        due("the other one stays", x.object(1, 3).contains("/C 7 R"), true);
        due("a STREAM", x.ofDoc(1, 2), 1);
        index("no DOCUMENT", () -> x.merge(2));
        start(43);
        x.newPage(1, 0, 5, 5);
        define(1, 60, "(x)");
        define(1, 3, "<</Kind /Page/A[<</B[<</C 60 R/D 9 R>>]>>]/E[[[[60 R 9 R]]]]>>");
        x.merge(0);
        due("five deep", x.object(0, 3),
                "<</A [<</B [<</C 4 R>>]>>] /Box [0 0 20 20] /E [[[[4 R null]]]] /Kind /Page>>");
        due("number 60", x.object(0, 4), "(x)");
        start(43);
        for (int k = 0; k < 6; k++) {
            x.newPage(0, 0, 1, 1);
            x.newPage(1, 0, 1, 1);
        }
        due("12", x.merge(0), 12);
        due("18", x.merge(0), -9);
        due("nothing changes", x.ofDoc(0, 0), 14);
        start(43);
        x.newPage(1, 0, 1, 1);
        for (int n = 3; n <= 59; n++) {
            define(0, n, "1");
        }
        due("one number is left", x.merge(0), 1);
        due("none is left", x.merge(0), -9);
    }

    private static void split() {
        start(44);
        for (int k = 0; k < 4; k++) {
            x.newPage(0, k, k + 1, 1);
        }
        define(0, 4, "<</Kind /Page/Box[0 0 2 1]/Up 2 R/S 20 R>>");
        stream(0, 20, "abc");
        define(1, 9, "1");
        x.lock(1, 5, 0);
        x.lock(0, 5, 0);
        x.write(0, 0, false);
        x.read(0, 0);
        due("split, also with a LOCK", x.split(0, 1, 2), 2);
        due("NEW", x.object(1, 1), "<</Kind /Root /Pages 2 R>>");
        due("its TREE", x.object(1, 2), "<</Count 2 /Kids [4 R 5 R] /Kind /Tree>>");
        due("the TREE of the copy", x.object(1, 3), "<</Count 2 /Kids [4 R 5 R] /Kind /Tree>>");
        due("PAGE", x.object(1, 4), "<</Box [0 0 2 1] /Kind /Page /S 6 R /Up 3 R>>");
        due("STREAM", x.data(1, 6, false), "abc");
        due("no LOCK", x.ofDoc(1, 6), 0);
        due("this stays", x.ofDoc(0, 2), 4);
        due("the last one", x.split(0, 3, 3), 1);
        x.undo();
        argument("to less than from", () -> x.split(1, 1, 0));
        index("from", () -> x.split(1, 2, 1));
        index("to", () -> x.split(1, 0, 2));
        index("no DOCUMENT", () -> x.split(2, 0, 0));
    }

    private static void notes() {
        start(45);
        x.newPage(0, 0, 9, 9);
        due("note", x.note(0, 0, 3, -99, 77), 1);
        due("BOOK", x.object(0, 3), "<</Box [0 0 9 9] /Kind /Page /Notes [<</At [3 -99] /Say (badb)>>]>>");
        due("notes", x.ofPage(0, 0, 8), 1);
        define(0, 3, "<</Kind /Page/Notes[5 <</A 1>> <</At[1 2]/Say(x\\))/B 1>> <</At[1 2 3]/Say()>> <</At[1 /A]/Say()>>]>>");
        due("NOTES", x.ofPage(0, 0, 8), 1);
        due("BOOKS in Notes", x.note(0, 0, 0, 0, 0), 5);
        define(0, 3, "<</Kind /Page/Notes 5>>");
        due("in its place", x.note(0, 0, 0, 0, 0), 1);
        for (int k = 1; k < 12; k++) {
            x.note(0, 0, k, 0, 0);
        }
        due("the 13th", x.note(0, 0, 0, 0, 0), -9);
        argument("x", () -> x.note(0, 0, 100, 0, 0));
        argument("y", () -> x.note(0, 0, 0, -100, 0));
        argument("word", () -> x.note(0, 0, 0, 0, 1000));
        argument("word", () -> x.note(0, 0, 0, 0, -1));
        index("no PAGE", () -> x.note(0, 1, 100, 0, 0));
        index("no DOCUMENT", () -> x.note(2, 0, 0, 0, 0));
        start(46);
        x.newPage(0, 0, 9, 9);
        define(0, 3, "<</Kind /Page/Notes[5 <</At[1 -2]/Say(x\\) \\\\)>> <</At[1 2 3]/Say()>> <</At[3 4]/Say()>>]>>");
        due("noteOf", x.noteOf(0, 0, 0), "1,-2 x) \\");
        due("the next one", x.noteOf(0, 0, 1), "3,4 ");
        indexText("no NOTE", () -> x.noteOf(0, 0, 2));
        indexText("no NOTE", () -> x.noteOf(0, 0, -1));
        indexText("no PAGE", () -> x.noteOf(0, 1, 0));
        indexText("no DOCUMENT", () -> x.noteOf(2, 0, 0));
    }

    private static void titles() {
        start(47);
        x.newPage(0, 0, 9, 9);
        due("title", x.title(0, 3, 4, 0), 1);
        due("ROOT", x.object(0, 1), "<</Kind /Root /Lines [<</Deep 3 /Title (ba) /To 3 R>>] /Pages 2 R>>");
        define(0, 1, "<</Pages 2 R/Lines[5 <</Deep 4/Title()/To 3 R>> <</Deep 0/Title()/To 3>> <</Deep 1/Title(x)/To 50 R>>]>>");
        due("LINES", x.ofDoc(0, 4), 1);
        due("LINES then", x.title(0, 0, 0, 0), 2);
        argument("deep", () -> x.title(0, 4, 0, 0));
        argument("deep", () -> x.title(0, -1, 0, 0));
        argument("word", () -> x.title(0, 0, 1000, 0));
        index("no PAGE", () -> x.title(0, 4, 0, 1));
        index("no DOCUMENT", () -> x.title(2, 0, 0, 0));
        for (int k = 0; k < 6; k++) {
            x.title(0, 0, k, 0);
        }
        due("the 12th in the ROW", x.title(0, 0, 0, 0), 9);
        due("the 13th", x.title(0, 0, 0, 0), -9);
        stream(0, 1, "");
        due("ROOT is a STREAM", x.title(0, 0, 0, 0), -9);
        due("its LINES are told", x.ofDoc(0, 4), 9);
        start(48);
        x.newPage(0, 0, 9, 9);
        x.newPage(0, 0, 9, 9);
        define(0, 1, "<</Pages 2 R/Lines[<</Deep 2/Title(x\\()/To 3 R>> 7 <</Deep 0/Title()/To 50 R>>]>>");
        due("lineOf", x.lineOf(0, 0), ">>x( 1");
        due("to none", x.lineOf(0, 1), " -");
        define(0, 60, "<</Kind /Page>>");
        define(0, 2, "<</Kind /Tree/Kids[3 R 60 R]>>");
        define(0, 1, "<</Pages 2 R/Lines[<</Deep 2/Title(x\\()/To 3 R>> 7 <</Deep 0/Title()/To 60 R>>]>>");
        due("to number 60", x.lineOf(0, 1), " 1");
        indexText("no LINE", () -> x.lineOf(0, 2));
        indexText("no LINE", () -> x.lineOf(0, -1));
        indexText("no DOCUMENT", () -> x.lineOf(2, 0));
    }

    private static void fields() {
        start(49);
        due("field", x.field(0, 25, 9), 1);
        due("ROOT", x.object(0, 1), "<</Fields <</Z <</Most 9 /Value ()>>>> /Kind /Root /Pages 2 R>>");
        due("another", x.field(0, 0, 1), 2);
        due("in its place", x.field(0, 25, 2), 2);
        define(0, 1, "<</Fields<</A 5/B<</Most 1>>/C<</Most 1/Value(x)/X 1>>/Dd<</Most 0/Value()>>>>>>");
        due("FIELDS", x.ofDoc(0, 5), 2);
        due("FIELDS then", x.field(0, 0, 1), 3);
        define(0, 1, "<</Fields 5>>");
        due("none", x.field(0, 0, 1), 1);
        for (int k = 1; k < 10; k++) {
            x.field(0, k, 1);
        }
        due("the 11th", x.field(0, 10, 1), -9);
        due("one of the 10", x.field(0, 9, 1), 10);
        argument("letter", () -> x.field(0, 26, 1));
        argument("letter", () -> x.field(0, -1, 1));
        argument("most", () -> x.field(0, 0, 0));
        argument("most", () -> x.field(0, 0, 10));
        index("no DOCUMENT", () -> x.field(2, 26, 1));
        stream(0, 1, "");
        due("ROOT is a STREAM", x.field(0, 0, 1), -9);
        start(50);
        define(0, 1, "<</Fields<</A 5/C<</Most 2/Value(x)/X 1>>>>/Pages 2 R>>");
        due("fill", x.fill(0, 2, 5), 2);
        due("all else stays", x.object(0, 1), "<</Fields <</A 5 /C <</Most 2 /Value (bb) /X 1>>>> /Pages 2 R>>");
        due("longer than Most", x.fill(0, 2, 16), -9);
        due("no FIELD", x.fill(0, 0, 0), -9);
        due("no FIELD", x.fill(0, 1, 0), -9);
        argument("letter", () -> x.fill(0, 26, 0));
        argument("word", () -> x.fill(0, 2, 1000));
        argument("word", () -> x.fill(0, 2, -1));
        index("no DOCUMENT", () -> x.fill(-1, 26, 0));
        start(51);
        define(0, 1, "<</Fields<</A 5/C<</Most 2/Value(x\\)\\\\)>>>>>>");
        due("valueOf", x.valueOf(0, 2), "x)\\");
        due("none", x.valueOf(0, 0), "-");
        due("none", x.valueOf(0, 1), "-");
        due("without FIELDS", x.valueOf(1, 1), "-");
        argumentText("letter", () -> x.valueOf(0, 26));
        argumentText("letter", () -> x.valueOf(0, -1));
        indexText("no DOCUMENT", () -> x.valueOf(2, 26));
    }

    private static void locks() {
        start(52);
        due("lock", x.lock(0, 999, 7), 0);
        due("it is OPEN", x.ofDoc(0, 7), 1);
        due("again", x.lock(0, 5, 2), 1);
        due("taken away", x.lock(0, -1, 0), 1);
        due("no LOCK", x.ofDoc(0, 6), 0);
        argument("key", () -> x.lock(0, -2, 0));
        argument("key", () -> x.lock(0, 1000, 0));
        argument("lets", () -> x.lock(0, 0, 8));
        argument("lets", () -> x.lock(0, 0, -1));
        index("no DOCUMENT", () -> x.lock(2, -2, 0));
        start(53);
        closed(0);
        due("another KEY", x.open(0, 6), 0);
        due("lock()", x.lock(0, -1, 0), -9);
        due("the KEY", x.open(0, 5), 1);
        due("it stays OPEN", x.open(0, 6), 1);
        due("lock() then", x.lock(0, -1, 0), 1);
        closed(0);
        due("another KEY of that Code", x.open(0, 102), 1);
        due("without a LOCK", x.open(1, 6), 1);
        argument("key", () -> x.open(0, 1000));
        argument("key", () -> x.open(0, -1));
        index("no DOCUMENT", () -> x.open(2, -1));
        for (int lets = 0; lets < 8; lets++) {
            closed(lets);
            lets(lets);
        }
    }

    /** DOCUMENT 0 gets a LOCK and is not OPEN. */
    private static void closed(int lets) {
        x.fresh(0);
        x.newPage(0, 0, 9, 9);
        x.newPage(0, 1, 9, 9);
        x.addBox(0, 0, 0, 0, 1, 1);
        x.field(0, 0, 9);
        x.lock(0, 5, lets);
        x.write(0, 0, false);
        x.read(0, 0);
    }

    private static void lets(int lets) {
        IntSupplier[][] calls = {
            {() -> x.turnPage(0, 0, 1), () -> x.boxPage(0, 0, 0, 0, 9, 9), () -> x.newPage(0, 0, 1, 1),
                () -> x.movePage(0, 0, 1), () -> x.dropPage(0, 0), () -> x.merge(0)},
            {() -> x.addText(0, 0, 0, 0, 1, 1), () -> x.addBox(0, 0, 0, 0, 1, 1), () -> x.addPart(0, 0),
                () -> x.form(0, 0, 0), () -> x.black(0, 0, 0, 0, 1, 1), () -> x.define(0, 60), () -> x.stream(0, 60),
                () -> x.filter(0, 60, 1, -1, -1), () -> x.drop(0, 60), () -> x.sweep(0)},
            {() -> x.note(0, 0, 0, 0, 1), () -> x.title(0, 0, 0, 0), () -> x.field(0, 1, 1), () -> x.fill(0, 0, 1)}};
        type("1");
        for (int kind = 0; kind < 3; kind++) {
            for (int k = 0; k < calls[kind].length; k++) {
                boolean isLet = calls[kind][k].getAsInt() != -9;
                due("lets " + lets + ", kind " + kind + ", call " + k, isLet, (lets >> kind & 1) == 1);
            }
        }
        type("[");
        due("-9 ahead of -7", x.define(0, 60), (lets & 2) != 0 ? -7 : -9);
        due("split is let", x.split(0, 0, 0), 1);
        due("write is let", x.write(0, 1, false) > 0, true);
        due("a copy of the LOCK is not OPEN", x.ofDoc(0, 7), 0);
        due("repair is let", x.repair(1, 0) > 0, true);
        due("no LOCK behind it", x.ofDoc(0, 6), 0);
    }

    private static void undo() {
        start(54);
        dueThrow("none", IllegalStateException.class, () -> x.undo());
        for (int k = 3; k < 9; k++) {
            define(0, k, "" + k);
        }
        due("4 at most", x.house(2), 4);
        type("[");
        x.define(0, 20);
        x.drop(1, 50);
        due("an answer of 0 is a CHANGE", x.house(2), 4);
        x.write(0, 0, false);
        due("HOME", x.ofDoc(0, 8), 0);
        due("undo", x.undo(), 3);
        due("HOME is as it was", x.ofDoc(0, 8), -1);
        due("the FILE stays", x.size(0) > 0, true);
        due("undo", x.undo(), 2);
        due("the last CHANGE", x.object(0, 8), "");
        due("the one ahead of it", x.object(0, 7), "7");
        x.undo();
        x.undo();
        due("the fifth stays", x.object(0, 5), "5");
        due("the fourth went", x.object(0, 6), "");
        dueThrow("no more", IllegalStateException.class, () -> x.undo());
        due("the LINE stays", x.line(), "[");
        x.lock(0, 5, 0);
        x.lock(0, -1, 0);
        x.undo();
        due("the LOCK", x.ofDoc(0, 6), 1);
        due("OPEN", x.ofDoc(0, 7), 1);
        closed(2);
        x.open(0, 5);
        define(0, 40, "1");
        type("2");
        x.define(0, 40);
        x.undo();
        due("it was OPEN then", x.ofDoc(0, 7), 1);
    }

    private static void house() {
        start(55);
        x.newPage(0, 0, 1, 1);
        define(0, 9, "1");
        x.title(0, 0, 0, 0);
        x.field(0, 0, 1);
        int[] due = {4, 3, 1, 1, 1, 1, 0, 1, -1, 7};
        for (int what = 0; what < 10; what++) {
            due("what " + what, x.ofDoc(0, what), due[what]);
        }
        closed(4);
        due("LOCK", x.ofDoc(0, 6), 1);
        due("OPEN", x.ofDoc(0, 7), 0);
        due("HOME", x.ofDoc(0, 8), 0);
        due("Lets", x.ofDoc(0, 9), 4);
        argument("what", () -> x.ofDoc(0, 10));
        argument("what", () -> x.ofDoc(0, -1));
        index("no DOCUMENT", () -> x.ofDoc(2, 10));
        start(56);
        due("no PAGES", x.alike(), 0);
        for (int doc = 0; doc < 2; doc++) {
            for (int k = 0; k < 3; k++) {
                x.newPage(doc, k, 5, 5);
            }
            x.addBox(doc, 1, 0, 0, 2, 2);
        }
        due("all", x.alike(), 3);
        x.addBox(1, 2, 0, 0, 9, 9);
        due("other MARKS", x.alike(), 2);
        x.addBox(0, 2, 0, 0, 5, 5);
        due("the same MARKS", x.alike(), 3);
        x.addBox(0, 2, 1, 1, 1, 1);
        x.addBox(1, 2, 1, 1, 1, 2);
        due("another MARK", x.alike(), 2);
        x.addBox(0, 2, 1, 1, 1, 2);
        x.addBox(1, 2, 1, 1, 1, 1);
        due("other MARKS, as many", x.alike(), 2);
        x.turnPage(0, 1, 1);
        due("another TURN", x.alike(), 1);
        x.boxPage(1, 0, 0, 0, 5, 6);
        due("another BOX", x.alike(), 0);
        x.boxPage(0, 0, 0, 0, 5, 6);
        x.turnPage(1, 1, 1);
        x.dropPage(1, 2);
        due("as many as both have", x.alike(), 2);
        start(57);
        type("abc");
        x.put(0, 0);
        x.put(3, 0);
        x.drop(0, 9);
        due("LINE", x.house(0), 3);
        due("FILES", x.house(1), 6);
        due("CHANGES", x.house(2), 1);
        due("knocks", x.house(3), 0);
        argument("what", () -> x.house(4));
        argument("what", () -> x.house(-1));
        start(58);
        due("knock", x.knock(), 1);
        due("knock", x.knock(), 2);
        due("knocks", x.house(3), 2);
    }

    private static void sound() {
        start(59);
        due("NEW", x.isSound(), true);
        x.newPage(0, 0, 9, 9);
        x.addText(0, 0, 0, 0, 1, 99);
        x.filter(0, 4, 0, 1, 2);
        x.merge(1);
        due("with PAGES", x.isSound(), true);
        x.drop(0, 1);
        due("without ROOT", x.isSound(), true);
        start(60);
        long fresh = x.digest();
        due("the same again", x.digest(), fresh);
        due("of a NEW object", fresh, -7136693695967437342L);
        x.knock();
        due("other with a knock", x.digest() == fresh, false);
        x.newPage(0, 0, 9, 9);
        x.note(0, 0, 3, 4, 5);
        x.title(0, 1, 2, 0);
        x.field(0, 3, 4);
        x.addText(0, 0, 0, 0, 2, 99);
        x.write(0, 1, true);
        x.lock(0, 7, 1);
        type("abc");
        due("of another", x.digest(), -9217989289552161541L);
    }
}
