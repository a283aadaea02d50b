/** The boundaries of promises 7 to 13, and of what section 3 of the document says of WRITTEN files (promises 14 to 16). */
public final class FileBounds extends Trial {
    private static final String ROOT = body(1, "<</Kind /Root /Pages 2 R>>");
    private static final String TREE = body(2, "<</Count 0 /Kids [] /Kind /Tree>>");
    private static final String NEW = "%D1\n" + ROOT + TREE;
    /** How many SIGNS are missing to 6000 as fill() does it. */
    private static final int WHOLE_MORE = 96;
    private static final int PACKED_MORE = 31;
    private static final int UPDATE_MORE = 62;
    private static final String TRAILER = "last\n<</Root 1 R /Size 3>>\n";

    public static void main(String[] args) {
        FileBounds bounds = new FileBounds();
        bounds.numbers();
        bounds.texts();
        bounds.places();
        bounds.hurts();
        bounds.cuts();
        bounds.puts();
        bounds.copies();
        bounds.fresh();
        bounds.written();
        bounds.sizes();
        bounds.packs();
        bounds.packLengths();
        bounds.packNumbers();
        bounds.packStreams();
        bounds.wholeLengths();
        bounds.updates();
        bounds.updateHomes();
        bounds.updateGone();
        bounds.updateLocks();
        bounds.updateLengths();
        bounds.end();
    }

    private void numbers() {
        start("IndexOutOfBoundsException if there is no such FILE");
        type("x");
        for (int file : new int[] {-1, 4, Integer.MIN_VALUE, Integer.MAX_VALUE}) {
            index("size", x -> x.size(file));
            index("text", x -> x.text(file, 0));
            index("place", x -> x.place(file, 0));
            index("hurt", x -> x.hurt(file, 0, 65));
            index("hurt, and no SIGN", x -> x.hurt(file, 0, 9));
            index("cut", x -> x.cut(file, 0));
            index("put", x -> x.put(file, 0));
            index("copyFile", x -> x.copyFile(file, 0));
            index("copyFile from", x -> x.copyFile(0, file));
            index("write", x -> x.write(0, file, false));
            index("read", x -> x.read(file, 0));
            index("repair", x -> x.repair(file, 0));
            index("faultOf", x -> x.faultOf(file));
        }
        for (int file = 0; file < 4; file++) {
            int one = file;
            due("FILE " + file, 1, x -> x.put(one, 0));
            due("size of " + file, 1, x -> x.size(one));
            due("all", one + 1, x -> x.house(1));
        }
        goOn("IndexOutOfBoundsException if there is no such DOCUMENT");
        for (int doc : new int[] {-1, 2, Integer.MIN_VALUE, Integer.MAX_VALUE}) {
            index("fresh", x -> x.fresh(doc));
            index("write", x -> x.write(doc, 0, false));
            index("update", x -> x.update(doc));
            index("read", x -> x.read(0, doc));
            index("repair", x -> x.repair(0, doc));
        }
    }

    private void texts() {
        start("Returns its SIGNS from there on, at most 100");
        String long250 = times(25, "abcdefghij");
        file(0, long250);
        due("100", long250.substring(0, 100), x -> x.text(0, 0));
        due("101 are left", long250.substring(149, 249), x -> x.text(0, 149));
        due("100 are left", long250.substring(150), x -> x.text(0, 150));
        due("99 are left", long250.substring(151), x -> x.text(0, 151));
        due("one is left", "j", x -> x.text(0, 249));
        due("none is left", "", x -> x.text(0, 250));
        goOn("IndexOutOfBoundsException if from is not 0 to its length");
        index("behind its length", x -> x.text(0, 251));
        index("below 0", x -> x.text(0, -1));
        index("far below", x -> x.text(0, Integer.MIN_VALUE));
        index("far behind", x -> x.text(0, Integer.MAX_VALUE));
        idle("of an empty one", "", x -> x.text(1, 0));
        index("behind an empty one", x -> x.text(1, 1));
    }

    private void places() {
        start("Returns the first place from there on at which the LINE stands; NONE without");
        file(0, "abcabcab");
        type("abc");
        idle("at the begin", 0, x -> x.place(0, 0));
        idle("from there on", 3, x -> x.place(0, 1));
        idle("at that place", 3, x -> x.place(0, 3));
        idle("not whole", -1, x -> x.place(0, 4));
        idle("from the end on", -1, x -> x.place(0, 8));
        type("ab");
        idle("up to the end", 6, x -> x.place(0, 4));
        idle("behind it", -1, x -> x.place(0, 7));
        type("abcabcab");
        idle("all of it", 0, x -> x.place(0, 0));
        idle("one behind", -1, x -> x.place(0, 1));
        type("abcabcabc");
        idle("longer than it", -1, x -> x.place(0, 0));
        type("");
        idle("an empty LINE", 0, x -> x.place(0, 0));
        idle("an empty LINE there", 5, x -> x.place(0, 5));
        idle("an empty LINE at the end", 8, x -> x.place(0, 8));
        idle("an empty LINE in an empty FILE", 0, x -> x.place(1, 0));
        goOn("IndexOutOfBoundsException if from is not 0 to its length");
        index("behind its length", x -> x.place(0, 9));
        index("below 0", x -> x.place(0, -1));
        index("far behind", x -> x.place(0, Integer.MAX_VALUE));
    }

    private void hurts() {
        start("Makes a SIGN of a FILE another one; returns what it was");
        file(0, "a\n~");
        due("the first", 97, x -> x.hurt(0, 0, 32));
        due("NEWLINE", 10, x -> x.hurt(0, 1, 126));
        due("the last", 126, x -> x.hurt(0, 2, 10));
        due("FILE", " ~\n", x -> x.text(0, 0));
        goOn("IndexOutOfBoundsException if there is no such FILE, or place");
        index("its length", x -> x.hurt(0, 3, 65));
        index("below 0", x -> x.hurt(0, -1, 65));
        index("far behind", x -> x.hurt(0, Integer.MAX_VALUE, 65));
        index("of an empty FILE", x -> x.hurt(1, 0, 65));
        index("and no SIGN", x -> x.hurt(0, 3, 9));
        goOn("IllegalArgumentException if code is not 10, and not 32 to 126");
        for (int code : new int[] {9, 11, 31, 127, -1, 0, 128, 266, 288}) {
            argument("code " + code, x -> x.hurt(0, 0, code));
        }
    }

    private void cuts() {
        start("Cuts a FILE; returns how many SIGNS went");
        file(0, "abcdef");
        due("none", 0, x -> x.cut(0, 6));
        due("one", 1, x -> x.cut(0, 5));
        due("two", 2, x -> x.cut(0, 3));
        due("FILE", "abc", x -> x.text(0, 0));
        goOn("IndexOutOfBoundsException if length is not 0 to its length");
        index("longer", x -> x.cut(0, 4));
        index("as long as it was", x -> x.cut(0, 6));
        index("below 0", x -> x.cut(0, -1));
        index("far longer", x -> x.cut(0, Integer.MAX_VALUE));
        due("all", 3, x -> x.cut(0, 0));
        due("none of none", 0, x -> x.cut(0, 0));
        index("longer than none", x -> x.cut(0, 1));
    }

    private void puts() {
        start("Puts the LINE into a FILE, ahead of a place (of its length: behind all)");
        type("bc");
        due("into an empty one", 2, x -> x.put(0, 0));
        type("a");
        due("ahead of all", 3, x -> x.put(0, 0));
        type("-");
        due("between", 4, x -> x.put(0, 1));
        due("behind all", 5, x -> x.put(0, 4));
        due("FILE", "a-bc-", x -> x.text(0, 0));
        type("");
        due("nothing", 5, x -> x.put(0, 5));
        goOn("IndexOutOfBoundsException if place is not 0 to its length");
        index("behind its length", x -> x.put(0, 6));
        index("below 0", x -> x.put(0, -1));
        index("far behind", x -> x.put(0, Integer.MAX_VALUE));
        goOn("-9 if that were more than 6000");
        file(0, times(5999, "x"));
        type("ab");
        refused("6001", x -> x.put(0, 0));
        index("6001, and no such place", x -> x.put(0, 6000));
        type("a");
        due("6000", 6000, x -> x.put(0, 5999));
        due("the last", "a", x -> x.text(0, 5999));
        refused("6001", x -> x.put(0, 6000));
        type("");
        due("nothing to 6000", 6000, x -> x.put(0, 6000));
    }

    private void copies() {
        start("A FILE becomes as another one is (or stays); returns how long it is then");
        file(0, "abc");
        file(3, "defghi");
        due("longer", 6, x -> x.copyFile(0, 3));
        due("FILE", "defghi", x -> x.text(0, 0));
        idle("itself", 6, x -> x.copyFile(3, 3));
        due("empty", 0, x -> x.copyFile(0, 1));
        due("the other one", 6, x -> x.size(3));
        idle("empty itself", 0, x -> x.copyFile(1, 1));
    }

    private void fresh() {
        start("A DOCUMENT becomes NEW: two OBJECTS, no HOME, no LOCK; returns how many OBJECTS it had");
        due("two", 2, x -> x.fresh(1));
        does(x -> x.drop(1, 1));
        does(x -> x.drop(1, 2));
        due("none", 0, x -> x.fresh(1));
        type("1");
        for (int n = 3; n <= 60; n++) {
            int one = n;
            does(x -> x.define(1, one));
        }
        does(x -> x.lock(1, 5, 0));
        does(x -> x.write(1, 0, false));
        does(x -> x.repair(0, 0));
        does(x -> x.lock(1, -1, 0));
        does(x -> x.lock(1, 5, 0));
        due("60", 60, x -> x.fresh(1));
        due("OBJECTS", 2, x -> x.ofDoc(1, 0));
        due("ROOT", 1, x -> x.ofDoc(1, 3));
        file(3, body(9, "<</Kind/Root>>"));
        does(x -> x.repair(3, 0));
        due("one of ROOT 9", 1, x -> x.fresh(0));
        due("ROOT is 1", 1, x -> x.ofDoc(0, 3));
        due("LOCK", 0, x -> x.ofDoc(1, 6));
        due("HOME", -1, x -> x.ofDoc(1, 8));
        due("OBJECT 1", "<</Kind /Root /Pages 2 R>>", x -> x.object(1, 1));
        due("OBJECT 2", "<</Count 0 /Kids [] /Kind /Tree>>", x -> x.object(1, 2));
        due("without a HOME", -9, x -> x.update(1));
        goOn("READ, REPAIR, NEW are always let");
        does(x -> x.lock(0, 5, 0));
        does(x -> x.write(0, 0, false));
        does(x -> x.read(0, 0));
        due("not OPEN", 0, x -> x.ofDoc(0, 7));
        due("NEW", 2, x -> x.fresh(0));
        due("OPEN", 1, x -> x.ofDoc(0, 7));
    }

    private void written() {
        start("Written anew a DOCUMENT is: \"%D1\" and NEWLINE; OBJECT by OBJECT, by rising numbers, its BODY; the TABLE");
        String due = tabled(NEW, "table\n1 4\n2 39\n" + TRAILER);
        due("length", due.length(), x -> x.write(0, 0, false));
        due("FILE", due, x -> whole(x, 0));
        due("HOME", 0, x -> x.ofDoc(0, 8));
        due("no CHANGE", 0, x -> x.house(2));
        file(3, times(500, "x"));
        due("over a longer FILE", due.length(), x -> x.write(0, 3, false));
        due("FILE", due, x -> whole(x, 3));
        due("HOME", 3, x -> x.ofDoc(0, 8));
        goOn("of a STREAM its BOOK, with \"Len\" as how many SIGNS DATA has");
        define(0, 60, "<</Aa 1/Z 2/L 3/Lf 4/Leo 5>>");
        stream(0, 60, "\nend\n60 o\n");
        define(0, 1, "<</S 60 R>>");
        String bodies = "%D1\n" + body(1, "<</S 60 R>>")
                + "60 o\n<</Aa 1 /L 3 /Len 10 /Leo 5 /Lf 4 /Z 2>>\ndata\n\nend\n60 o\n\nend\n";
        String text = tabled(bodies, "table\n1 4\n60 24\nlast\n<</Root 1 R /Size 61>>\n");
        due("length", text.length(), x -> x.write(0, 0, false));
        due("FILE", text, x -> whole(x, 0));
        stream(0, 60, "");
        does(x -> x.write(0, 0, false));
        due("empty DATA", true, x -> whole(x, 0).contains("/Len 0 /Leo 5 /Lf 4 /Z 2>>\ndata\n\nend\ntable\n"));
        goOn("WRITTEN are these alone that can be come to");
        define(0, 1, "<<>>");
        String alone = tabled("%D1\n" + body(1, "<<>>"), "table\n1 4\nlast\n<</Root 1 R /Size 2>>\n");
        does(x -> x.write(0, 0, false));
        due("FILE", alone, x -> whole(x, 0));
        does(x -> x.drop(0, 1));
        String none = tabled("%D1\n", "table\nlast\n<</Root 1 R /Size 1>>\n");
        due("no OBJECT", none.length(), x -> x.write(0, 0, false));
        due("FILE", none, x -> whole(x, 0));
        due("packed the same", none.length(), x -> x.write(0, 1, true));
        due("FILE", none, x -> whole(x, 1));
        goOn("if a STREAM of Kind /Pack is one of them, nothing is: -9");
        define(0, 1, "<</Kind/Pack>>");
        stream(0, 1, "");
        refused("the ROOT", x -> x.write(0, 0, false));
        refused("the ROOT in an UPDATE", x -> x.update(0));
        define(0, 1, "<</S 5 R>>");
        define(0, 5, "<</Kind /Pack>>");
        due("a BOOK of that Kind is WRITTEN", true, x -> x.write(0, 0, false) > 0);
        stream(0, 5, "");
        refused("a STREAM", x -> x.write(0, 0, false));
        refused("packed", x -> x.write(0, 0, true));
        refused("an UPDATE", x -> x.update(0));
        does(x -> x.drop(0, 1));
        due("it can not be come to", none.length(), x -> x.write(0, 0, false));
    }

    /** The newest TABLE of a FILE. */
    private static String newest(Pagedocument x, int file) {
        String text = whole(x, file);
        return text.substring(text.lastIndexOf("table\n"));
    }

    private void sizes() {
        start("\"Size\": the greatest number of an OBJECT that is come to, and 1 more");
        define(0, 59, "1");
        define(0, 60, "1");
        define(0, 1, "<</A 59 R>>");
        does(x -> x.write(0, 0, false));
        due("what is not come to does not count", true, x -> whole(x, 0).contains("/Size 60>>"));
        define(0, 1, "<</A 59 R/B 60 R>>");
        does(x -> x.write(0, 0, false));
        due("60", true, x -> whole(x, 0).contains("/Size 61>>"));
        define(0, 1, "<<>>");
        does(x -> x.write(0, 0, true));
        due("a PACK does not count", true, x -> whole(x, 0).contains("table\n1 p3.0\n3 4\nlast\n<</Root 1 R /Size 2>>"));
        goOn("in an UPDATE also that was at HOME (come to or not)");
        define(0, 1, "<</A 59 R/B 60 R>>");
        does(x -> x.write(0, 0, false));
        define(0, 1, "<</A 59 R>>");
        does(x -> x.update(0));
        due("60 was at HOME", true, x -> newest(x, 0).contains("\n60 -\nlast\n") && newest(x, 0).contains(" /Root 1 R /Size 61>>\n"));
        define(0, 1, "<<>>");
        does(x -> x.update(0));
        due("59 was there", true, x -> newest(x, 0).contains("\n59 -\nlast\n") && newest(x, 0).contains(" /Root 1 R /Size 60>>\n"));
        define(0, 1, "<</Z 1>>");
        does(x -> x.update(0));
        due("it was gone", true, x -> newest(x, 0).contains(" /Root 1 R /Size 2>>\n"));
        goOn("1 if there is no such OBJECT");
        does(x -> x.drop(0, 1));
        does(x -> x.update(0));
        due("at HOME was one", true, x -> newest(x, 0).contains("table\n1 -\nlast\n") && newest(x, 0).contains(" /Size 2>>\n"));
        does(x -> x.lock(0, 1, 1));
        does(x -> x.update(0));
        due("none is left", true, x -> newest(x, 0).contains("table\nlast\n") && newest(x, 0).contains(" /Size 1>>\n"));
    }

    private static String packBody(int number, int count, String data) {
        return body(number, "/Count " + count + " /Filter /Run /Kind /Pack ", data);
    }

    private void packs() {
        start("those OBJECTS that are no STREAMS, 4 by 4 by rising numbers, are in PACKS");
        define(0, 1, "<</A[2 R 3 R 4 R]>>");
        define(0, 2, "2");
        define(0, 3, "(b)");
        define(0, 4, "4 R");
        String four = "1 <</A [2 R 3 R 4 R]>>\n2 2\n3 (b)\n4 4 R\n";
        String bodies = "%D1\n" + packBody(5, 4, four);
        String due = tabled(bodies, "table\n1 p5.0\n2 p5.1\n3 p5.2\n4 p5.3\n5 4\nlast\n<</Root 1 R /Size 5>>\n");
        due("four", due.length(), x -> x.write(0, 0, true));
        due("FILE of four", due, x -> whole(x, 0));
        due("READ again", 4, x -> x.read(0, 1));
        define(0, 5, "[1 R]");
        define(0, 4, "5 R");
        String five = "1 <</A [2 R 3 R 4 R]>>\n2 2\n3 (b)\n4 5 R\n";
        String first = "%D1\n" + packBody(6, 4, five);
        bodies = first + packBody(7, 1, "5 [1 R]\n");
        due = tabled(bodies, "table\n1 p6.0\n2 p6.1\n3 p6.2\n4 p6.3\n5 p7.0\n6 4\n7 " + first.length()
                + "\nlast\n<</Root 1 R /Size 6>>\n");
        does(x -> x.write(0, 0, true));
        String file = due;
        due("FILE of five", file, x -> whole(x, 0));
        due("READ again", 5, x -> x.read(0, 1));
        goOn("the smallest numbers that no OBJECT of the DOCUMENT has; their BODIES stand among the others");
        define(0, 3, "<</S 9 R>>");
        stream(0, 9, "x");
        define(0, 6, "(not come to)");
        does(x -> x.write(0, 0, true));
        due("7 and 8 ahead of 9", true, x -> whole(x, 0).contains("\n1 p7.0\n2 p7.1\n3 p7.2\n4 p7.3\n5 p8.0\n7 4\n8 "));
        due("READ again", 6, x -> x.read(0, 1));
        due("what is not come to is not there", "", x -> x.object(1, 6));
        due("a STREAM is in none", "x", x -> x.data(1, 9, false));
    }

    /** A ROW, WRITTEN so long: first strings of 40 SIGNS that Run makes twice as long, then others. */
    private static String row(int length, int wide, String signs) {
        int left = length - 4 - 43 * wide;
        return "[" + times(wide, "(" + times(20, "~a") + ") ") + times(left / 43, "(" + times(20, signs) + ") ")
                + "(" + times(20, signs).substring(0, left % 43) + ")]";
    }

    /** DOCUMENT 0 becomes one of two OBJECTS. */
    private void two(String second) {
        back();
        repaired(body(1, "<</A [2 R]>>") + body(2, second) + "<</Root 1 R>>\n");
    }

    private void packLengths() {
        start("-9 if the TEXT or DATA of a PACK were longer than 500");
        int ahead = "1 <</A [2 R]>>\n2 \n".length();
        two(row(500 - ahead, 0, "ab"));
        due("500", true, x -> x.write(0, 0, true) > 0);
        due("so long are DATA", true, x -> whole(x, 0).contains("/Len 500>>"));
        due("READ again", 2, x -> x.read(0, 1));
        two(row(501 - ahead, 0, "ab"));
        refused("501", x -> x.write(0, 0, true));
        due("without PACKS", true, x -> x.write(0, 1, false) > 500);
        goOn("TEXT alone longer than 500");
        two(row(500 - ahead, 0, "aa"));
        due("TEXT of 500", true, x -> x.write(0, 0, true) > 0);
        due("READ again", 2, x -> x.read(0, 1));
        two(row(501 - ahead, 0, "aa"));
        refused("TEXT of 501", x -> x.write(0, 0, true));
        goOn("DATA alone longer than 500");
        two(row(500 - ahead - 3 * 40, 3, "ab"));
        due("DATA of 500", true, x -> x.write(0, 0, true) > 0);
        due("so long are DATA", true, x -> whole(x, 0).contains("/Len 500>>"));
        two(row(501 - ahead - 3 * 40, 3, "ab"));
        refused("DATA of 501", x -> x.write(0, 0, true));
    }

    private void packNumbers() {
        start("-9 if no numbers are left for PACKS");
        define(0, 1, "<</A[2 R 3 R 4 R]>>");
        type("1");
        for (int n = 2; n <= 59; n++) {
            int one = n;
            does(x -> x.define(0, one));
        }
        due("one is left for one", true, x -> x.write(0, 0, true) > 0);
        due("it is 60", true, x -> whole(x, 0).contains("1 p60.0\n2 p60.1\n3 p60.2\n4 p60.3\n60 4\n"));
        define(0, 1, "<</A[2 R 3 R 4 R 5 R]>>");
        refused("one is left for two", x -> x.write(0, 0, true));
        due("without PACKS", true, x -> x.write(0, 1, false) > 0);
        does(x -> x.drop(0, 40));
        due("two are left for two", true, x -> x.write(0, 0, true) > 0);
        due("they are 40 and 60", true, x -> whole(x, 0).contains("4 p40.3\n5 p60.0\n40 4\n60 "));
        define(0, 1, "<</A[2 R 3 R 4 R]>>");
        define(0, 40, "1");
        define(0, 60, "1");
        refused("none is left for one", x -> x.write(0, 0, true));
    }

    private void packStreams() {
        start("no STREAM is in a PACK");
        define(0, 1, "<</A[2 R 3 R 4 R 5 R 6 R]>>");
        for (int n = 2; n <= 6; n++) {
            define(0, n, "<</N " + n + ">>");
        }
        stream(0, 3, "three");
        stream(0, 6, "six");
        does(x -> x.write(0, 0, true));
        due("four others", true, x -> whole(x, 0).contains("1 <</A [2 R 3 R 4 R 5 R 6 R]>>\n2 <</N 2>>\n4 <</N 4>>\n5 <</N 5>>\n"));
        stream(0, 1, "one");
        stream(0, 2, "two");
        stream(0, 4, "four");
        stream(0, 5, "five");
        does(x -> x.write(0, 0, true));
        due("no PACK", false, x -> whole(x, 0).contains("Pack"));
        for (int n = 7; n <= 60; n++) {
            define(0, n, "1");
        }
        due("no number is needed", true, x -> x.write(0, 0, true) > 0);
    }

    /** DOCUMENT 0 becomes one of STREAMS of 200 SIGNS, one of some others, and one of 100, WRITTEN not far from 6000. */
    private void fill(int many, int other) {
        StringBuilder kids = new StringBuilder();
        for (int n = 3; n < 3 + many; n++) {
            kids.append((n - 3) % 12 == 0 ? (n > 3 ? "]" : "") + "/" + (char) ('A' + n / 12) + "[" : " ").append(n).append(" R");
        }
        define(0, 1, "<<" + kids + "]/Y 59 R/Z 60 R>>");
        type(times(200, "s"));
        for (int n = 3; n < 3 + many; n++) {
            int object = n;
            does(x -> x.stream(0, object));
        }
        stream(0, 59, times(other, "y"));
        stream(0, 60, times(100, "z"));
    }

    private void wholeLengths() {
        for (boolean isPacked : new boolean[] {false, true}) {
            start("-9 if a FILE were more than 6000, " + (isPacked ? "packed" : "not packed"));
            fill(23, 120);
            int more = isPacked ? PACKED_MORE : WHOLE_MORE;
            due("it can be filled up", 6000 - more, x -> x.write(0, 0, isPacked));
            stream(0, 60, times(100 + more, "z"));
            due("6000", 6000, x -> x.write(0, 0, isPacked));
            due("READ again", 26, x -> x.read(0, 1));
            stream(0, 60, times(101 + more, "z"));
            refused("6001", x -> x.write(0, 0, isPacked));
        }
    }

    private void updates() {
        start("0 if no OBJECT is new or other, none is told as gone, and the LOCK is as it was (the FILE stays)");
        refused("-9 without a HOME", x -> x.update(0));
        does(x -> x.write(0, 0, false));
        does(x -> x.lock(0, 1, 1));
        does(x -> x.update(0));
        due("WRITE and UPDATE are no CHANGES", 1, x -> x.house(2));
        does(x -> x.lock(0, -1, 1));
        does(x -> x.write(0, 0, false));
        String old = tabled(NEW, "table\n1 4\n2 39\n" + TRAILER);
        idle("nothing", 0, x -> x.update(0));
        define(0, 3, "7");
        idle("new, but not come to", 0, x -> x.update(0));
        define(0, 1, "<</Kind /Other>>");
        define(0, 1, "<</Kind /Root /Pages 2 R>>");
        idle("other, and as it was again", 0, x -> x.update(0));
        goOn("behind the FILE come BODIES of all OBJECTS that are new or others, and a TABLE of these");
        define(0, 1, "<</Kind /Root /N 3 R /Pages 2 R>>");
        String bodies = old + body(1, "<</Kind /Root /N 3 R /Pages 2 R>>") + body(3, "7");
        String due = tabled(bodies, "table\n1 135\n3 177\nlast\n<</Prev 81 /Root 1 R /Size 4>>\n");
        due("length", due.length(), x -> x.update(0));
        due("FILE", due, x -> whole(x, 0));
        idle("again nothing", 0, x -> x.update(0));
        due("READ again", 3, x -> x.read(0, 1));
        due("what counts", "<</Kind /Root /N 3 R /Pages 2 R>>", x -> x.object(1, 1));
        goOn("a BOOK that becomes a STREAM is another one, and one of other DATA");
        define(0, 3, "<<>>");
        does(x -> x.update(0));
        stream(0, 3, "");
        due("a STREAM", true, x -> x.update(0) > 0);
        stream(0, 3, "x");
        due("other DATA", true, x -> x.update(0) > 0);
        define(0, 3, "<</A 1>>");
        stream(0, 3, "x");
        due("another BOOK", true, x -> x.update(0) > 0);
        idle("nothing", 0, x -> x.update(0));
        goOn("-9 if the FILE has not the text that it had");
        due("another SIGN", 37, x -> x.hurt(0, 0, 36));
        refused("other", x -> x.update(0));
        does(x -> x.hurt(0, 0, 37));
        idle("as it was", 0, x -> x.update(0));
        type("x");
        does(x -> x.put(0, x.size(0)));
        refused("longer", x -> x.update(0));
        does(x -> x.cut(0, x.size(0) - 1));
        idle("as it was again", 0, x -> x.update(0));
        does(x -> x.cut(0, x.size(0) - 1));
        refused("shorter", x -> x.update(0));
    }

    private void updateHomes() {
        start("behind a WRITE or UPDATE those that were not come to then are new");
        define(0, 3, "7");
        does(x -> x.write(0, 0, false));
        define(0, 1, "<</N 3 R>>");
        does(x -> x.update(0));
        due("it is new behind a WRITE", true, x -> whole(x, 0).contains("end\n3 o\n7\nend\ntable\n"));
        define(0, 1, "<</N 4 R>>");
        define(0, 4, "1");
        does(x -> x.update(0));
        define(0, 1, "<</N 3 R>>");
        due("behind an UPDATE", true, x -> x.update(0) > 0);
        due("it is new again", true, x -> whole(x, 0).lastIndexOf("end\n3 o\n7\nend\ntable\n") > whole(x, 0).lastIndexOf("4 o"));
        goOn("also number 1");
        repaired(body(1, "(x)") + body(9, "<</Kind/Root>>"));
        does(x -> x.write(0, 0, false));
        define(0, 9, "<</A 1 R>>");
        does(x -> x.update(0));
        due("1 is new", true, x -> whole(x, 0).contains("%E\n1 o\n(x)\nend\n9 o\n"));
        goOn("HOME has, behind READ, all OBJECTS that READ made");
        String bodies = NEW + body(9, "7");
        file(1, tabled(bodies, "table\n1 4\n2 39\n9 81\n" + TRAILER));
        due("OBJECTS", 3, x -> x.read(1, 0));
        define(0, 1, "<</Kind /Root /N 9 R /Pages 2 R>>");
        does(x -> x.update(0));
        due("it is not new behind READ", true, x -> whole(x, 1).endsWith("end\ntable\n1 150\nlast\n<</Prev 91 /Root 1 R /Size 10>>\n"
                + "start\n192\n%E\n"));
        goOn("HOME is the FILE that it was READ from or WRITTEN to last");
        does(x -> x.write(0, 2, true));
        define(0, 9, "8");
        due("the FILE of the WRITE", true, x -> x.update(0) > 0);
        due("it stands there", true, x -> whole(x, 2).contains("\n9 o\n8\nend\ntable\n9 "));
        due("HOME", 2, x -> x.ofDoc(0, 8));
        due("READ again", 3, x -> x.read(2, 1));
        due("what counts", "8", x -> x.object(1, 9));
        goOn("a number that a PACK has there can be that of a new OBJECT");
        define(1, 3, "(new)");
        define(1, 1, "<</Kind /Root /N 3 R /Pages 2 R>>");
        does(x -> x.update(1));
        due("READ again", 3, x -> x.read(2, 0));
        due("the new one", "(new)", x -> x.object(0, 3));
        due("those of the PACK", "<</Count 0 /Kids [] /Kind /Tree>>", x -> x.object(0, 2));
        goOn("undo() brings HOME back");
        start("HOME goes with REPAIR and NEW");
        does(x -> x.write(0, 0, false));
        does(x -> x.repair(0, 0));
        due("REPAIR", -1, x -> x.ofDoc(0, 8));
        refused("without a HOME", x -> x.update(0));
        does(Pagedocument::undo);
        due("undone", 0, x -> x.ofDoc(0, 8));
        idle("with HOME", 0, x -> x.update(0));
    }

    private void updateGone() {
        start("an UPDATE tells as gone all that was at HOME (come to or not) and can not be come to now");
        String bodies = NEW + body(9, "7") + body(60, "8");
        file(1, tabled(bodies, "table\n1 4\n2 39\n9 81\n60 91\n" + TRAILER));
        due("OBJECTS", 4, x -> x.read(1, 0));
        due("not come to", true, x -> x.update(0) > 0);
        due("told", true, x -> whole(x, 1).endsWith("table\n9 -\n60 -\nlast\n<</Prev 102 /Root 1 R /Size 61>>\nstart\n168\n%E\n"));
        idle("then they are not at HOME", 0, x -> x.update(0));
        due("READ again", 2, x -> x.read(1, 1));
        goOn("also what was dropped");
        does(x -> x.drop(0, 2));
        due("dropped", true, x -> x.update(0) > 0);
        due("told", true, x -> whole(x, 1).contains("table\n2 -\nlast\n<</Prev 168 /Root 1 R /Size 3>>"));
        does(x -> x.drop(0, 1));
        due("the ROOT, too", true, x -> x.update(0) > 0);
        due("FAULT", 6, x -> x.faultOf(1));
    }

    private void updateLocks() {
        start("also if just the LOCK is other");
        does(x -> x.write(0, 0, false));
        does(x -> x.lock(0, 1, 3));
        due("a LOCK", true, x -> x.update(0) > 0);
        due("told", true, x -> whole(x, 0).endsWith("table\nlast\n<</Lock <</Code 10 /Lets 3>> /Prev 81 /Root 1 R /Size 3>>\n"
                + "start\n135\n%E\n"));
        idle("as it was", 0, x -> x.update(0));
        does(x -> x.lock(0, 98, 3));
        idle("a KEY of the same Code", 0, x -> x.update(0));
        does(x -> x.lock(0, 1, 2));
        due("other Lets", true, x -> x.update(0) > 0);
        does(x -> x.lock(0, 2, 2));
        due("another Code", true, x -> x.update(0) > 0);
        does(x -> x.lock(0, -1, 0));
        due("none", true, x -> x.update(0) > 0);
        due("READ again", 2, x -> x.read(0, 1));
        due("no LOCK", 0, x -> x.ofDoc(1, 6));
        does(x -> x.lock(0, 0, 0));
        due("Code 3, no Lets", true, x -> x.update(0) > 0);
        does(x -> x.read(0, 1));
        due("Lets", 0, x -> x.ofDoc(1, 9));
        idle("nothing new behind READ", 0, x -> x.update(1));
    }

    private void updateLengths() {
        start("-9 if a FILE would be longer than 6000 by an UPDATE");
        fill(22, 200);
        does(x -> x.write(0, 0, false));
        stream(0, 60, times(100, "y"));
        does(x -> x.copyFile(1, 0));
        due("it can be filled up", 6000 - UPDATE_MORE, x -> x.update(0));
        stream(0, 60, times(100, "z"));
        due("as it was", 0, x -> x.write(0, 0, false) - x.size(1));
        stream(0, 60, times(101 + UPDATE_MORE, "y"));
        refused("6001", x -> x.update(0));
        stream(0, 60, times(100 + UPDATE_MORE, "y"));
        due("6000", 6000, x -> x.update(0));
        due("READ again", 25, x -> x.read(0, 1));
        idle("nothing new", 0, x -> x.update(0));
        does(x -> x.drop(0, 60));
        refused("what is gone does not fit", x -> x.update(0));
    }
}
