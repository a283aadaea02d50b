/** The boundaries of promises 1 and 20 to 27: OBJECTS, and what of them can be come to. */
public final class ObjectBounds extends Trial {
    private static final String NINE = "/A 1 /B 1 /C 1 /D 1 /E 1 /F 1 /G 1 /H 1 /I 1";

    public static void main(String[] args) {
        ObjectBounds bounds = new ObjectBounds();
        bounds.newObject();
        bounds.numbers();
        bounds.objects();
        bounds.reached();
        bounds.reachedRefs();
        bounds.defined();
        bounds.defineRefused();
        bounds.streams();
        bounds.streamRefused();
        bounds.dropped();
        bounds.swept();
        bounds.sweepRefused();
        bounds.end();
    }

    private void newObject() {
        start("Creates two NEW documents and four empty files");
        for (int k = 0; k < 2; k++) {
            int doc = k;
            idle("OBJECTS", 2, x -> x.ofDoc(doc, 0));
            idle("OBJECT 1", "<</Kind /Root /Pages 2 R>>", x -> x.object(doc, 1));
            idle("OBJECT 2", "<</Count 0 /Kids [] /Kind /Tree>>", x -> x.object(doc, 2));
            idle("ROOT", 1, x -> x.ofDoc(doc, 3));
            idle("both can be come to", 2, x -> x.ofDoc(doc, 1));
            idle("PAGES", 0, x -> x.ofDoc(doc, 2));
            idle("no LOCK", 0, x -> x.ofDoc(doc, 6));
            idle("OPEN", 1, x -> x.ofDoc(doc, 7));
            idle("no HOME", -1, x -> x.ofDoc(doc, 8));
            idle("Lets", 7, x -> x.ofDoc(doc, 9));
            for (int n = 3; n <= 60; n++) {
                int object = n;
                due("OBJECT " + n, "", x -> x.object(doc, object));
            }
        }
        for (int k = 0; k < 4; k++) {
            int file = k;
            idle("size of FILE " + k, 0, x -> x.size(file));
            idle("FAULT of FILE " + k, 1, x -> x.faultOf(file));
        }
        idle("LINE", "", Pagedocument::line);
        for (int k = 0; k < 4; k++) {
            int what = k;
            idle("house " + k, 0, x -> x.house(what));
        }
        state("nothing to take back", Pagedocument::undo);
    }

    private void numbers() {
        start("IndexOutOfBoundsException if there is no such DOCUMENT, or object is not 1 to 60");
        type("1");
        for (int object : new int[] {0, 61, -1, Integer.MIN_VALUE, Integer.MAX_VALUE}) {
            index("object " + object, x -> x.object(0, object));
            index("data " + object, x -> x.data(0, object, false));
            index("isReached " + object, x -> x.isReached(0, object));
            index("define " + object, x -> x.define(0, object));
            index("stream " + object, x -> x.stream(0, object));
            index("drop " + object, x -> x.drop(0, object));
            index("filter " + object, x -> x.filter(0, object, -1, -1, -1));
        }
        for (int doc : new int[] {-1, 2, Integer.MIN_VALUE, Integer.MAX_VALUE}) {
            index("object", x -> x.object(doc, 1));
            index("data", x -> x.data(doc, 1, true));
            index("isReached", x -> x.isReached(doc, 1));
            index("define", x -> x.define(doc, 1));
            index("stream", x -> x.stream(doc, 1));
            index("drop", x -> x.drop(doc, 1));
            index("filter", x -> x.filter(doc, 1, -1, -1, -1));
            index("sweep", x -> x.sweep(doc));
        }
        goOn("1 and 60 are numbers");
        due("define 60", 0, x -> x.define(0, 60));
        due("stream 60", 1, x -> x.stream(0, 60));
        due("data of 60", "1", x -> x.data(0, 60, false));
        due("filter 60", 1, x -> x.filter(0, 60, 1, -1, -1));
        due("isReached 60", false, x -> x.isReached(0, 60));
        due("drop 60", 1, x -> x.drop(0, 60));
        due("define 1", 1, x -> x.define(0, 1));
        due("stream 1", 1, x -> x.stream(0, 1));
        due("isReached 1", true, x -> x.isReached(0, 1));
        due("drop 1", 1, x -> x.drop(0, 1));
        due("object 1", "", x -> x.object(0, 1));
    }

    private void objects() {
        start("that OBJECT as it is WRITTEN, of a STREAM its BOOK (without \"Len\", and \" data\" behind); \"\" if there is none");
        define(0, 5, " [ 01 /A(\\()\n<</b 1/A 2>>] ");
        idle("a VALUE", "[1 /A (\\() <</A 2 /b 1>>]", x -> x.object(0, 5));
        define(0, 5, "null");
        idle("NOTHING is there", "null", x -> x.object(0, 5));
        idle("it counts", 3, x -> x.ofDoc(0, 0));
        define(0, 5, "<</Len 5/A 1>>");
        idle("a BOOK with Len", "<</A 1 /Len 5>>", x -> x.object(0, 5));
        stream(0, 5, "abc");
        idle("a STREAM", "<</A 1>> data", x -> x.object(0, 5));
        repaired(body(1, "<</Kind/Root>>") + body(5, "/Z 1", "abc"));
        idle("a STREAM of a FILE", "<</Z 1>> data", x -> x.object(0, 5));
        idle("none", "", x -> x.object(0, 6));
        idle("in the other DOCUMENT", "", x -> x.object(1, 5));
    }

    private void reached() {
        start("What can be come to: the ROOT, and each OBJECT of which a REF stands in one of these");
        idle("ROOT", true, x -> x.isReached(0, 1));
        idle("at Pages", true, x -> x.isReached(0, 2));
        idle("not there", false, x -> x.isReached(0, 3));
        define(0, 1, "<</A 3 R>>");
        idle("a REF to none", false, x -> x.isReached(0, 3));
        idle("no REF any more", false, x -> x.isReached(0, 2));
        for (int n = 3; n < 60; n++) {
            define(0, n, n + 1 + " R");
        }
        define(0, 60, "[1 R 60 R]");
        for (int n = 3; n <= 60; n++) {
            int object = n;
            due("by a chain " + n, true, x -> x.isReached(0, object));
        }
        due("how many", 59, x -> x.ofDoc(0, 1));
        does(x -> x.drop(0, 30));
        due("ahead of the gap", true, x -> x.isReached(0, 29));
        due("behind the gap", false, x -> x.isReached(0, 31));
        due("how many", 28, x -> x.ofDoc(0, 1));
        does(x -> x.drop(0, 1));
        due("without the ROOT", 0, x -> x.ofDoc(0, 1));
        due("none", false, x -> x.isReached(0, 3));
    }

    private void reachedRefs() {
        start("(in a VALUE, or the BOOK of a STREAM, however deep)");
        define(0, 1, "<</A[<</A[<</A 3 R>>]>>]/B 4 R/C[[[[5 R]]]]/D(6 R)/E 7/F[8 -9]/G<</H 60 R>>>>");
        for (int n = 3; n <= 10; n++) {
            define(0, n, "" + n);
        }
        define(0, 60, "(\\) 9 R \\\\)");
        boolean[] due = {true, true, true, false, false, false, false, false};
        for (int n = 3; n <= 10; n++) {
            int object = n;
            idle("OBJECT " + n, due[n - 3], x -> x.isReached(0, object));
        }
        idle("60", true, x -> x.isReached(0, 60));
        goOn("behind a STRING with backslashes");
        for (String text : new String[] {"(\\))", "(\\()", "(\\\\)", "(a\\\\\\))", "()", "(6 R)"}) {
            define(0, 1, "[" + text + " 3 R" + text + "10 R]");
            idle("OBJECT 3 behind " + text, true, x -> x.isReached(0, 3));
            idle("OBJECT 10 behind " + text, true, x -> x.isReached(0, 10));
            idle("OBJECT 6 in it", false, x -> x.isReached(0, 6));
        }
        define(0, 1, "<</A[<</A[<</A 3 R>>]>>]/B 4 R/C[[[[5 R]]]]/D(6 R)/E 7/F[8 -9]/G<</H 60 R>>>>");
        goOn("of a STREAM its BOOK, not its DATA");
        define(0, 4, "<</A 6 R>>");
        stream(0, 4, "7 R");
        idle("BOOK of a STREAM", true, x -> x.isReached(0, 6));
        idle("DATA", false, x -> x.isReached(0, 7));
        stream(0, 1, "8 R");
        idle("a ROOT that is a STREAM", true, x -> x.isReached(0, 3));
        idle("its DATA", false, x -> x.isReached(0, 8));
    }

    private void defined() {
        start("An OBJECT becomes the VALUE of the LINE; returns 1 if there was one, otherwise 0");
        type(" 12 ");
        due("none was there", 0, x -> x.define(0, 60));
        due("a CHANGE", 1, x -> x.house(2));
        due("OBJECT", "12", x -> x.object(0, 60));
        due("one was there", 1, x -> x.define(0, 60));
        due("the LINE stays", " 12 ", Pagedocument::line);
        stream(0, 60, "abc");
        type("13");
        due("a STREAM was there", 1, x -> x.define(0, 60));
        due("no STREAM any more", "-", x -> x.data(0, 60, false));
        due("OBJECT", "13", x -> x.object(0, 60));
        due("the other DOCUMENT", "", x -> x.object(1, 60));
        type("[" + times(11, "1 ") + "(" + times(40, "\\(") + ")]");
        due("a long one", 1, x -> x.define(0, 60));
        due("as WRITTEN", "[" + times(11, "1 ") + "(" + times(40, "\\(") + ")]", x -> x.object(0, 60));
    }

    private void defineRefused() {
        start("-7 if the LINE has a FAULT; -9 if the LOCK does not let it (that ahead of -7)");
        type("[1");
        idle("a FAULT", -7, x -> x.define(0, 1));
        idle("a FAULT, a new one", -7, x -> x.define(0, 60));
        type("1 2");
        idle("something behind it", -7, x -> x.define(0, 1));
        type("");
        idle("an empty LINE", -7, x -> x.define(0, 1));
        index("exceptions go ahead", x -> x.define(0, 61));
        does(x -> x.fresh(0));
        closed(5);
        type("1");
        refused("the LOCK", x -> x.define(0, 1));
        type("[1");
        refused("the LOCK ahead of the FAULT", x -> x.define(0, 1));
        does(x -> x.fresh(0));
        closed(2);
        idle("the LOCK lets it", -7, x -> x.define(0, 1));
        type("1");
        due("so", 1, x -> x.define(0, 1));
    }

    private void streams() {
        start("An OBJECT becomes a STREAM with the LINE as its DATA; its BOOK is the one that it is or has, otherwise an empty one");
        type("abc");
        due("none was there", 0, x -> x.stream(0, 60));
        due("an empty BOOK", "<<>> data", x -> x.object(0, 60));
        due("DATA", "abc", x -> x.data(0, 60, false));
        due("a CHANGE", 1, x -> x.house(2));
        for (String value : new String[] {"null", "5", "[1]", "(<<>>)", "1 R", "/A", "true"}) {
            define(0, 60, value);
            type("x");
            due("one was there", 1, x -> x.stream(0, 60));
            due("of " + value, "<<>> data", x -> x.object(0, 60));
        }
        define(0, 60, "<</A[1]>>");
        type("");
        due("a BOOK was there", 1, x -> x.stream(0, 60));
        due("that BOOK", "<</A [1]>> data", x -> x.object(0, 60));
        due("empty DATA", "", x -> x.data(0, 60, false));
        type("\n");
        due("a STREAM was there", 1, x -> x.stream(0, 60));
        due("its BOOK", "<</A [1]>> data", x -> x.object(0, 60));
        due("other DATA", "\n", x -> x.data(0, 60, false));
        type(times(200, "z"));
        due("200", 1, x -> x.stream(0, 60));
        due("200 SIGNS", times(200, "z"), x -> x.data(0, 60, false));
        goOn("without \"Filter\" and \"Len\"");
        does(x -> x.filter(0, 60, 1, -1, -1));
        type("q");
        does(x -> x.stream(0, 60));
        due("Filter goes", "<</A [1]>> data", x -> x.object(0, 60));
        define(0, 60, "<</Filter/Hex/Len 9/Lem 1/Leo 2/Filtes 3>>");
        type("q");
        does(x -> x.stream(0, 60));
        due("both go", "<</Filtes 3 /Lem 1 /Leo 2>> data", x -> x.object(0, 60));
        due("TEXT", "q", x -> x.data(0, 60, true));
    }

    private void streamRefused() {
        start("-9 if its BOOK would have 10 NAMES, or if the LOCK does not let it");
        define(0, 60, "<<" + NINE + " /J 1>>");
        refused("10 NAMES", x -> x.stream(0, 60));
        define(0, 60, "<<" + NINE + " /Len 1>>");
        type("x");
        due("9 without Len", 1, x -> x.stream(0, 60));
        due("its BOOK", "<<" + NINE + ">> data", x -> x.object(0, 60));
        define(0, 60, "<<" + NINE + " /Filter 1>>");
        type("x");
        due("9 without Filter", 1, x -> x.stream(0, 60));
        define(0, 60, "<<" + NINE + ">>");
        type("x");
        due("9", 1, x -> x.stream(0, 60));
        does(x -> x.fresh(0));
        closed(5);
        refused("the LOCK", x -> x.stream(0, 60));
        refused("the LOCK, of one that is there", x -> x.stream(0, 1));
        index("exceptions go ahead", x -> x.stream(0, 61));
        does(x -> x.fresh(0));
        closed(2);
        due("the LOCK lets it", 0, x -> x.stream(0, 60));
    }

    private void dropped() {
        start("An OBJECT goes (that of the ROOT, too); returns 1 if there was one, otherwise 0");
        due("none was there", 0, x -> x.drop(0, 60));
        due("a CHANGE as well", 1, x -> x.house(2));
        due("one", 1, x -> x.drop(0, 2));
        due("it is gone", "", x -> x.object(0, 2));
        due("the ROOT", 1, x -> x.drop(0, 1));
        due("OBJECTS", 0, x -> x.ofDoc(0, 0));
        due("the number of the ROOT stays", 1, x -> x.ofDoc(0, 3));
        due("again", 0, x -> x.drop(0, 1));
        due("the other DOCUMENT", 2, x -> x.ofDoc(1, 0));
        does(x -> x.fresh(0));
        closed(5);
        refused("the LOCK", x -> x.drop(0, 1));
        refused("the LOCK, of none", x -> x.drop(0, 60));
        index("exceptions go ahead", x -> x.drop(0, 0));
        does(x -> x.fresh(0));
        closed(2);
        due("the LOCK lets it", 1, x -> x.drop(0, 1));
    }

    private void swept() {
        start("SWEEP: what can not be come to goes; returns how many OBJECTS went");
        due("none", 0, x -> x.sweep(0));
        due("a CHANGE as well", 1, x -> x.house(2));
        define(0, 3, "4 R");
        define(0, 4, "3 R");
        define(0, 60, "1");
        stream(0, 59, "x");
        due("four", 4, x -> x.sweep(0));
        due("two stay", 2, x -> x.ofDoc(0, 0));
        due("60 went", "", x -> x.object(0, 60));
        define(0, 60, "59 R");
        define(0, 59, "[]");
        define(0, 2, "60 R");
        due("none", 0, x -> x.sweep(0));
        due("60 stays", "59 R", x -> x.object(0, 60));
        does(x -> x.drop(0, 1));
        due("without the ROOT all", 3, x -> x.sweep(0));
        due("none is left", 0, x -> x.ofDoc(0, 0));
        due("none of none", 0, x -> x.sweep(0));
        type("1");
        for (int n = 1; n <= 60; n++) {
            int object = n;
            does(x -> x.define(0, object));
        }
        due("all but the ROOT", 59, x -> x.sweep(0));
        repaired(body(1, "(x)") + body(60, "<</Kind/Root>>") + body(2, "(y)"));
        due("all but a ROOT of number 60", 2, x -> x.sweep(0));
        due("1 went", "", x -> x.object(0, 1));
        due("60 stays", "<</Kind /Root>>", x -> x.object(0, 60));
    }

    private void sweepRefused() {
        start("-9 if the LOCK does not let it");
        define(0, 60, "1");
        does(x -> x.fresh(0));
        closed(5);
        refused("nothing would go", x -> x.sweep(0));
        does(x -> x.fresh(0));
        closed(2);
        due("the LOCK lets it", 0, x -> x.sweep(0));
    }
}
