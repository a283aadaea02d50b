/** The boundaries of section 5 of the document (contents, marks) and of promises 29, 30 and 32. */
public final class ContentBounds extends Trial {
    private static final String DOT = "0 0 1 1 B";
    private static final String DOT_MARK = "B 0 0 1 1";

    public static void main(String[] args) {
        ContentBounds bounds = new ContentBounds();
        bounds.heap();
        bounds.tokens();
        bounds.needs();
        bounds.scales();
        bounds.origins();
        bounds.kept();
        bounds.rectangles();
        bounds.rectangleEdges();
        bounds.clips();
        bounds.sizes();
        bounds.pens();
        bounds.cells();
        bounds.formNames();
        bounds.formStates();
        bounds.formDepths();
        bounds.formMany();
        bounds.formManyElse();
        bounds.manyMarks();
        bounds.mark();
        bounds.drawn();
        bounds.turned();
        bounds.found();
        bounds.foundNot();
        bounds.end();
    }

    /** DOCUMENT 0 gets a PAGE of which OBJECT 30 is the CONTENT, and 31 to 33 are "A" to "C" of its FORMS. */
    private void page(int w, int h) {
        does(x -> x.newPage(0, 0, w, h));
        define(0, 3, "<</Kind/Page/Box[0 0 " + w + " " + h + "]/Parts 30 R/Forms<</A 31 R/B 32 R/C 33 R>>>>");
        keep();
    }

    private void form(int object, String text) {
        define(0, object, "<</Kind/Form>>");
        stream(0, object, text);
        keep();
    }

    private void keptValue(int object, String value) {
        define(0, object, value);
        keep();
    }

    private void keptStream(int object, String data) {
        stream(0, object, data);
        keep();
    }

    private void content(String text) {
        stream(0, 30, text);
    }

    private void gives(String text, String want) {
        back();
        content(text);
        idle("CONTENT " + text, want, x -> marks(x, 0, 0));
    }

    /** A FAULT of the CONTENT at a place, and no MARK. */
    private void faultAt(String text, int place) {
        gives(text, "!" + place);
    }

    private void heap() {
        start("an INTEGER, STRING or NAME is laid on the HEAP (at most 8)");
        page(9, 9);
        gives("1 2 3 4 5 6 7 8", "");
        faultAt("1 2 3 4 5 6 7 8 9", 16);
        faultAt("(a)(b)(c)(d)/E/F 7 8 /G", 21);
        faultAt("(a)(b)(c)(d)/E/F 7 8(i)", 20);
        faultAt("1 2 3 4 5 6 7 8 B", 16);
        gives("9999 -9999 9999 -9999 (" + times(40, "\\)") + ") /abcdef", "");
    }

    private void tokens() {
        start("(READ as a VALUE; \"3 R\" is none); any other SIGN is an ORDER; the place of that TOKEN is told");
        page(9, 9);
        gives("", "");
        gives(" \n \n", "");
        faultAt("3 R", 0);
        faultAt(" 3   R", 1);
        faultAt("60 R", 0);
        faultAt("61 R", 3);
        faultAt("0 R", 2);
        faultAt("3\nR", 2);
        faultAt("12345", 0);
        faultAt("1 -12345", 2);
        faultAt("1 -", 2);
        faultAt("1 -a", 2);
        faultAt("/", 0);
        faultAt("1 /1", 2);
        faultAt("/Abcdefg X", 0);
        faultAt("(a", 0);
        faultAt("1 (a\nb) T", 2);
        faultAt("((a)) T", 0);
        faultAt("(\\a) T", 0);
        faultAt("(" + times(41, "a") + ") T", 0);
        faultAt("null", 0);
        faultAt("true", 0);
        faultAt("[1]", 0);
        faultAt("<<>>", 0);
        faultAt(")", 0);
        for (char sign = 33; sign < 127; sign++) {
            boolean isOrder = "qQMBCZPTX".indexOf(sign) >= 0;
            boolean isValue = sign >= '0' && sign <= '9' || sign == '(' || sign == '/' || sign == '-';
            if (!isOrder && !isValue) {
                gives(DOT + "\n" + sign + DOT, DOT_MARK + "!10");
            }
        }
        goOn("BLANKS and NEWLINES are passed over");
        gives("\n0\n0  1\n1\nB", DOT_MARK);
        gives("0 0 1 1B0 0 1 1B", DOT_MARK + "|" + DOT_MARK);
        gives("00 -0 01 0001B", DOT_MARK);
    }

    private void needs() {
        start("it needs just what is on the HEAP, which is empty behind it");
        page(9, 9);
        faultAt("1 q", 2);
        faultAt("(a) q", 4);
        gives("q", "");
        gives("q Q", "");
        faultAt("q 1 Q", 4);
        faultAt("1 1 M", 4);
        faultAt("1 1 1 1 M", 8);
        faultAt("1 1 (a) M", 8);
        faultAt("0 0 1 B", 6);
        faultAt("0 0 1 1 1 B", 10);
        faultAt("0 0 1 /A B", 9);
        faultAt("(a) 0 1 1 B", 10);
        faultAt("0 0 1 C", 6);
        faultAt("0 0 1 1 1 C", 10);
        faultAt("Z", 0);
        faultAt("1 1 Z", 4);
        faultAt("(a) Z", 4);
        faultAt("1 P", 2);
        faultAt("1 1 1 P", 6);
        faultAt("1 /A P", 5);
        faultAt("T", 0);
        faultAt("1 T", 2);
        faultAt("/A T", 3);
        faultAt("(a)(b) T", 7);
        faultAt("1 (a) T", 6);
        faultAt("X", 0);
        faultAt("1 X", 2);
        faultAt("(A) X", 4);
        faultAt("/A/B X", 5);
        faultAt("1 /A X", 5);
        gives(DOT + " q " + DOT + " Q " + DOT, DOT_MARK + "|" + DOT_MARK + "|" + DOT_MARK);
        goOn("A FAULT ends it there");
        gives(DOT + " w " + DOT, DOT_MARK + "!10");
    }

    private void scales() {
        start("a e f \"M\": a 1 to 9; SCALE above 9: FAULT");
        page(40, 40);
        gives("1 0 0 M " + DOT, DOT_MARK);
        gives("9 0 0 M " + DOT, "B 0 0 9 9");
        faultAt("0 0 0 M", 6);
        faultAt("10 0 0 M", 7);
        faultAt("-1 0 0 M", 7);
        gives("3 0 0 M 3 0 0 M " + DOT, "B 0 0 9 9");
        faultAt("2 0 0 M 5 0 0 M", 14);
        gives("2 0 0 M 4 0 0 M " + DOT, "B 0 0 8 8");
        faultAt("9 0 0 M 2 0 0 M", 14);
        gives("9 0 0 M 1 0 0 M " + DOT, "B 0 0 9 9");
        faultAt("1 0 0 M 10 0 0 M", 15);
        goOn("the ORIGIN becomes where e, f is, then SCALE becomes SCALE * a");
        gives("2 3 4 M " + DOT, "B 3 4 2 2");
        gives("2 3 4 M 1 1 2 M " + DOT, "B 5 8 2 2");
        gives("2 1 1 M 3 1 1 M 0 0 1 2 B -1 0 1 1 B", "B 3 3 6 12|B 0 3 3 6");
    }

    private void origins() {
        start("ORIGIN beyond -9999 to 9999: FAULT");
        page(9, 9);
        gives("1 9999 9999 M -9999 -9999 1 1 B", DOT_MARK);
        gives("1 -9999 -9999 M 9999 9999 1 1 B", DOT_MARK);
        faultAt("1 9999 0 M 1 1 0 M", 17);
        faultAt("1 -9999 0 M 1 -1 0 M", 19);
        faultAt("1 0 9999 M 1 0 1 M", 17);
        faultAt("1 0 -9999 M 1 0 -1 M", 19);
        faultAt("2 0 0 M 1 5000 0 M", 17);
        gives("2 0 0 M 1 4999 -4999 M", "");
        faultAt("9 0 0 M 1 0 -1112 M", 18);
        gives("9 0 0 M 1 -1111 1111 M -1 -1 1 1 B", "");
        gives("9 0 0 M 1 -1111 1111 M 1111 -1111 1 1 B", "B 0 0 9 9");
        gives("1 9998 -9998 M 1 1 -1 M 1 0 0 M -9999 9999 1 1 B", DOT_MARK);
    }

    private void kept() {
        start("\"q\" keeps all five (8 at most; the ninth: FAULT), \"Q\" brings the last ones kept back (none: FAULT)");
        page(12, 12);
        gives("q q q q q q q q", "");
        faultAt("q q q q q q q q q", 16);
        gives("q q q q q q q q Q q", "");
        faultAt("Q", 0);
        faultAt("q Q Q", 4);
        gives("q q q q q q q q Q Q Q Q Q Q Q Q", "");
        faultAt("q q q q q q q q Q Q Q Q Q Q Q Q Q", 32);
        goOn("SCALE, ORIGIN, CLIP, SIZE, PEN");
        gives("q 2 1 2 M Q " + DOT, DOT_MARK);
        gives("q 1 1 2 2 C Q " + DOT, DOT_MARK);
        gives("q 5 Z Q (b) T", "L b 0 0 3 1");
        gives("q 5 6 P Q (b) T", "L b 0 0 3 1");
        gives("3 Z 1 1 P q 1 Z 2 2 P (a) T Q (a) T", "L a 2 2 2 1|L a 1 1 6 3");
        gives("1 1 0 M q 1 1 0 M q 1 1 0 M " + DOT + " Q " + DOT + " Q " + DOT, "B 3 0 1 1|B 2 0 1 1|B 1 0 1 1");
    }

    private void rectangles() {
        start("x y w h \"B\": (w, h from 1 on; else FAULT)");
        page(9, 9);
        gives(DOT, DOT_MARK);
        faultAt("0 0 0 1 B", 8);
        faultAt("0 0 1 0 B", 8);
        faultAt("0 0 -1 1 B", 9);
        faultAt("0 0 1 -9999 B", 12);
        gives("-9999 -9999 9999 9999 B", "");
        gives("0 0 9999 9999 B", "B 0 0 9 9");
        faultAt("99 99 0 1 B", 10);
        goOn("x y w h \"C\" (likewise)");
        gives("0 0 1 1 C 0 0 9 9 B", DOT_MARK);
        faultAt("0 0 0 1 C", 8);
        faultAt("0 0 1 0 C", 8);
        faultAt("0 0 -1 1 C", 9);
        faultAt("0 0 1 -1 C", 9);
        faultAt("50 50 1 1 C 0 0 1 0 C", 20);
    }

    private void rectangleEdges() {
        start("the part of that rectangle which is in the CLIP, if there is some, is a MARK");
        page(9, 9);
        gives("-1 0 1 1 B", "");
        gives("-1 0 2 1 B", DOT_MARK);
        gives("9 0 1 1 B", "");
        gives("8 0 1 1 B", "B 8 0 1 1");
        gives("8 0 5 1 B", "B 8 0 1 1");
        gives("0 -1 1 1 B", "");
        gives("0 -1 1 2 B", DOT_MARK);
        gives("0 9 1 1 B", "");
        gives("0 8 1 9 B", "B 0 8 1 1");
        gives("-5 -5 20 20 B", "B 0 0 9 9");
        gives("0 0 9 9 B", "B 0 0 9 9");
        keptValue(3, "<</Kind/Page/Box[-5 3 4 2]/Parts 30 R>>");
        gives("-9 0 20 20 B", "B -5 3 4 2");
        gives("-1 3 1 1 B", "");
        gives("-2 4 9 9 B", "B -2 4 1 1");
        gives("-6 3 1 1 B", "");
        gives("-5 2 1 1 B", "");
        gives("-5 5 1 1 B", "");
    }

    private void clips() {
        start("CLIP becomes what both have (perhaps nothing)");
        page(9, 9);
        gives("2 3 4 5 C 0 0 9 9 B", "B 2 3 4 5");
        gives("2 3 4 5 C 4 4 9 9 C 0 0 9 9 B", "B 4 4 2 4");
        gives("2 3 4 5 C 0 0 9 9 C 0 0 9 9 B", "B 2 3 4 5");
        gives("2 2 2 2 C 4 2 2 2 C 0 0 9 9 B", "");
        gives("2 2 2 2 C 2 4 2 2 C 0 0 9 9 B", "");
        gives("2 2 2 2 C 4 4 2 2 C 0 0 9 9 C 0 0 9 9 B (a) T", "");
        gives("50 0 1 1 C 0 0 9 9 C 50 0 1 1 B", "");
        gives("0 50 1 1 C 0 0 9 9 C 0 50 1 1 B", "");
        gives("q 50 0 1 1 C Q " + DOT, DOT_MARK);
        gives("2 1 1 M 1 1 2 1 C 1 0 0 M -9 -9 40 40 B", "B 3 3 4 2");
    }

    private void sizes() {
        start("z \"Z\": SIZE (1 to 999; else FAULT)");
        page(9, 9);
        gives("1 Z (b) T", "L b 0 0 3 1");
        gives("999 Z (b) T", "L b 0 0 2997 999");
        faultAt("0 Z", 2);
        faultAt("1000 Z", 5);
        faultAt("-1 Z", 3);
        faultAt("9999 Z", 5);
        goOn("(SIZE * SCALE above 999: FAULT)");
        gives("333 Z 3 0 0 M (b) T", "L b 0 0 2997 999");
        faultAt("334 Z 3 0 0 M (b) T", 18);
        gives("111 Z 9 0 0 M (c) T", "L c 0 0 999 999");
        faultAt("112 Z 9 0 0 M (c) T", 18);
        faultAt("999 Z 2 0 0 M () T", 17);
        faultAt("500 Z 2 0 0 M () T", 17);
        gives("499 Z 2 0 0 M () T", "");
        gives("999 Z 2 0 0 M " + DOT, "B 0 0 2 2");
    }

    private void pens() {
        start("x y \"P\": PEN (these two numbers; where it is comes of ORIGIN and SCALE as a SIGN is laid)");
        page(20, 20);
        gives("2 3 P (c) T", "L c 2 3 1 1");
        gives("2 3 P 2 1 1 M (c) T", "L c 5 7 2 2");
        gives("2 1 1 M 2 3 P q Q 1 1 0 M (c) T", "L c 7 7 2 2");
        gives("9999 -9999 P 1 -9999 9999 M (c) T", "L c 0 0 1 1");
        goOn("the PEN goes right by its width");
        gives("(abc) T", "L a 0 0 2 1|L b 2 0 3 1|L c 5 0 1 1");
        gives("(a) T 0 2 P (b) T (c) T", "L a 0 0 2 1|L b 0 2 3 1|L c 3 2 1 1");
        gives("(a) T 2 Z (a) T", "L a 0 0 2 1|L a 2 0 4 2");
        gives("(a) T 2 0 0 M (c) T", "L a 0 0 2 1|L c 4 0 2 2");
        gives("-3 0 P (bbc) T", "L b 0 0 3 1|L c 3 0 1 1");
        gives("() T (c) T", "L c 0 0 1 1");
        gives("(\\(\\)\\\\) T", "L ( 0 0 2 1|L ) 2 0 3 1|L \\ 5 0 3 1");
        gives("( ~) T", "L   0 0 3 1|L ~ 3 0 1 1");
    }

    private void cells() {
        start("it is a MARK, if the CELL and the CLIP have some in common (the CELL is not cut)");
        page(9, 9);
        gives("-1 0 P (a) T", "L a -1 0 2 1");
        gives("-2 0 P (a) T", "");
        gives("8 0 P (a) T", "L a 8 0 2 1");
        gives("9 0 P (a) T", "");
        gives("0 8 P 2 Z (a) T", "L a 0 8 4 2");
        gives("0 9 P 2 Z (a) T", "");
        gives("0 -1 P 2 Z (a) T", "L a 0 -1 4 2");
        gives("0 -2 P 2 Z (a) T", "");
        gives("1 0 1 1 C (a) T", "L a 0 0 2 1");
        gives("2 0 1 1 C (a) T", "");
        gives("3 3 1 1 C 9 Z -9 -5 P (a) T", "L a -9 -5 18 9");
    }

    private void formNames() {
        start("a NAME \"X\": the FORM with that NAME (in \"Forms\", a REF to a STREAM of which the BOOK has Kind /Form)");
        page(9, 9);
        form(31, DOT);
        gives("/A X", DOT_MARK);
        gives("/D X " + DOT, DOT_MARK);
        gives("/a X", "");
        gives("/AA X", "");
        gives("/B X " + DOT, DOT_MARK);
        keptValue(32, "<</Kind/Form>>");
        gives("/B X " + DOT, DOT_MARK);
        keptStream(33, DOT);
        gives("/C X", "");
        keptValue(33, "<</Kind/Forms>>");
        keptStream(33, DOT);
        gives("/C X", "");
        keptValue(33, "<</Kind(Form)>>");
        keptStream(33, DOT);
        gives("/C X", "");
        keptValue(3, "<</Kind/Page/Parts 30 R/Forms<</A[31 R]/B 31/C(31 R)/abcdef 31 R>>>>");
        gives("/A X /B X /C X", "");
        gives("/abcdef X", DOT_MARK);
        goOn("or BROKEN: nothing");
        repaired(body(1, "<</Kind/Root/Pages 3 R>>") + body(3, "<</Kind/Page/Parts 30 R/Forms<</A 31 R/B 32 R>>>>")
                + body(30, "", "/A X /B X") + body(31, "/Kind/Form/Filter/Hex", DOT) + body(32, "/Kind/Form/Filter/Run", "~10 0 1 1 B"));
        idle("MARKS", DOT_MARK, x -> marks(x, 0, 0));
    }

    private void formStates() {
        start("its TEXT is done as a CONTENT, which begins with all five as they are there, its HEAP empty and nothing kept");
        page(20, 20);
        form(31, DOT + "(a) T");
        gives("2 3 4 M 1 1 P 2 Z /A X", "B 3 4 2 2|L a 5 6 8 4");
        gives("5 5 2 2 C /A X", "");
        form(31, "Q " + DOT);
        gives("q /A X", "");
        form(31, "q q q q q q q q " + DOT);
        gives("q q q q q q q q /A X", DOT_MARK);
        form(31, "q q q q q q q q q " + DOT);
        gives("/A X", "");
        goOn("then all five are as ahead of that, what it kept is gone");
        form(31, "2 1 1 M 5 Z 7 7 P 3 3 1 1 C q");
        gives("/A X (a) T " + DOT, "L a 0 0 2 1|" + DOT_MARK);
        faultAt("/A X Q", 5);
        gives("q /A X Q", "");
        form(31, "q q q q q q q q");
        gives("/A X q q q q q q q q", "");
        goOn("a FAULT in it ends it alone");
        form(31, "9 Z 9 9 P 2 5 5 M w " + DOT);
        gives("/A X (c) T", "L c 0 0 1 1");
        form(31, "1");
        gives("/A X " + DOT, DOT_MARK);
        form(32, DOT);
        gives("/A X /B X", DOT_MARK);
        form(31, "q q q q q");
        form(32, "q q q q " + DOT);
        gives("/A X /B X", DOT_MARK);
        faultAt("1 2 /A X", 7);
    }

    private void formDepths() {
        start("the CONTENT in which this \"X\" stands is 4 deep (that of the PAGE is 0): nothing");
        page(9, 9);
        form(31, DOT + " 1 1 0 M /A X 0 1 1 1 B");
        gives("/A X", "B 0 0 1 1|B 1 0 1 1|B 2 0 1 1|B 3 0 1 1|B 4 1 1 1|B 3 1 1 1|B 2 1 1 1|B 1 1 1 1");
        form(31, "1 1 0 M /B X " + DOT);
        form(32, "1 1 0 M /A X " + DOT);
        gives("/A X " + DOT, "B 4 0 1 1|B 3 0 1 1|B 2 0 1 1|B 1 0 1 1|B 0 0 1 1");
    }

    private void formMany() {
        start("or 64 FORMS are begun for the PAGE already (each one as often as it is begun, those in others, too): nothing");
        page(9, 9);
        form(33, DOT);
        form(32, "");
        form(31, times(7, "/B X "));
        gives(times(7, "/A X ") + times(7, "/B X ") + "/C X /C X", DOT_MARK);
        gives(times(7, "/A X ") + times(6, "/B X ") + "/C X /C X /C X", DOT_MARK + "|" + DOT_MARK);
        gives(times(8, "/A X ") + "/C X", "");
        gives(times(7, "/A X ") + times(8, "/B X ") + "/C X", "");
        goOn("from 0 again each time that the CONTENT of the PAGE is done anew");
        gives(times(7, "/A X ") + times(7, "/B X ") + "/C X", DOT_MARK);
        idle("again", DOT_MARK, x -> x.mark(0, 0, 0));
        idle("and again", 1, x -> x.ofPage(0, 0, 6));
        goOn("the 64th may be in others");
        form(31, times(6, "/B X ") + "/C X");
        gives(times(8, "/A X "), times(7, DOT_MARK + "|") + DOT_MARK);
        gives("/B X " + times(8, "/A X "), times(6, DOT_MARK + "|") + DOT_MARK);
        gives("/B X " + times(8, "/A X ") + DOT, times(7, DOT_MARK + "|") + DOT_MARK);
    }

    private void formManyElse() {
        start("where nothing is done none is begun");
        page(9, 9);
        keptValue(3, "<</Kind/Page/Parts[30 R 29 R 28 R]/Forms<</A 31 R/B 32 R/C 33 R/D 34 R>>>>");
        keptStream(29, times(30, "/Z X "));
        keptStream(28, times(2, "/C X "));
        form(33, DOT);
        gives(times(30, "/Z X "), DOT_MARK + "|" + DOT_MARK);
        gives(times(30, "/B X "), DOT_MARK + "|" + DOT_MARK);
        keptStream(32, "");
        gives(times(30, "/B X "), DOT_MARK + "|" + DOT_MARK);
        goOn("too deep: none is begun");
        form(31, "/B X");
        form(32, "/A X");
        gives(times(15, "/A X "), DOT_MARK + "|" + DOT_MARK);
        gives(times(16, "/A X "), "");
        form(32, "/A X /A X /A X");
        form(31, "/B X");
        gives(times(4, "/A X "), DOT_MARK + "|" + DOT_MARK);
        goOn("one that is empty, or ends by a FAULT, is begun");
        form(32, "");
        form(31, "w");
        keptStream(29, times(31, "/A X "));
        gives(times(31, "/B X "), DOT_MARK + "|" + DOT_MARK);
        gives(times(32, "/B X "), DOT_MARK);
        gives(times(33, "/B X "), "");
    }

    private void manyMarks() {
        start("MARKS behind the 24th one are not told");
        page(40, 40);
        define(0, 3, "<</Kind/Page/Box[0 0 40 40]/Parts[30 R 29 R]>>");
        stream(0, 29, times(8, DOT + " "));
        content(times(15, DOT + " "));
        idle("23", 23, x -> x.ofPage(0, 0, 6));
        index("MARK 23", x -> x.mark(0, 0, 23));
        content(times(16, DOT + " "));
        idle("24", 24, x -> x.ofPage(0, 0, 6));
        idle("MARK 23", DOT_MARK, x -> x.mark(0, 0, 23));
        index("MARK 24", x -> x.mark(0, 0, 24));
        content(times(17, DOT + " "));
        idle("25", 24, x -> x.ofPage(0, 0, 6));
        index("MARK 24", x -> x.mark(0, 0, 24));
        goOn("all that is told, drawn, found or counted of MARKS is of the first 24");
        stream(0, 29, "(cd) T 9 9 1 1 B w");
        content(times(18, "0 0 1 1B") + times(5, "(c)T"));
        idle("the 24th is found", 18, x -> x.find(0, 0, 2, 0));
        idle("the 24th is found as the sixth", 23, x -> x.find(0, 0, 2, 5));
        idle("with the 25th it is not", -1, x -> x.find(0, 0, 11, 0));
        idle("the 26th is not drawn", '.', x -> x.drawn(0, 0, 30).charAt(9));
        idle("FAULT behind it", 144 + 20 + 1 + 17, x -> x.ofPage(0, 0, 7));
        stream(0, 29, "9 9 1 1 B");
        idle("the 24th is drawn", '#', x -> x.drawn(0, 0, 30).charAt(9));
    }

    private void mark() {
        start("As a text: \"B x y w h\", \"L c x y w h\", numbers as digits (\"-\" ahead, if below 0)");
        page(20, 20);
        content("0 0 20 20 B -5 -7 P 99 Z (a) T");
        idle("B", "B 0 0 20 20", x -> x.mark(0, 0, 0));
        idle("L", "L a -5 -7 198 99", x -> x.mark(0, 0, 1));
        index("behind the last", x -> x.mark(0, 0, 2));
        index("below 0", x -> x.mark(0, 0, -1));
        index("far below", x -> x.mark(0, 0, Integer.MIN_VALUE));
        index("far behind", x -> x.mark(0, 0, Integer.MAX_VALUE));
        content("");
        index("none", x -> x.mark(0, 0, 0));
        content("1 Z 0 0 P (B) T 0 5 P ( ) T");
        idle("an L of \"B\"", "L B 0 0 1 1", x -> x.mark(0, 0, 0));
        idle("an L of a BLANK", "L   0 5 3 1", x -> x.mark(0, 0, 1));
    }

    private static String rows(Pagedocument x, int many) {
        StringBuilder told = new StringBuilder();
        for (int row = 0; row < many; row++) {
            told.append(row > 0 ? "|" : "").append(x.drawn(0, 0, row));
        }
        return told.toString();
    }

    private void drawn() {
        start("DRAWN: the dots of the BOX, by rows from its greatest y down, each from its least x on");
        page(4, 3);
        content("");
        idle("none", "....|....|....", x -> rows(x, 3));
        content("0 0 1 1 B 3 2 1 1 B");
        idle("corners", "...#|....|#...", x -> rows(x, 3));
        goOn("of a dot the last MARK over it: \"#\" of a B, the SIGN of an L");
        content("0 0 4 3 B 1 1 P (a) T 2 0 P 2 Z (c) T");
        idle("L over B", "####|#acc|##cc", x -> rows(x, 3));
        content("1 1 P (a) T 0 0 2 2 B");
        idle("B over L", "....|##a.|##..", x -> rows(x, 3));
        goOn("the CELL is not cut");
        content("1 1 1 1 C 3 Z 0 0 P (b) T");
        idle("all of the CELL", "bbbb|bbbb|bbbb", x -> rows(x, 3));
        goOn("IndexOutOfBoundsException if there is no such row");
        index("behind the last", x -> x.drawn(0, 0, 3));
        index("below 0", x -> x.drawn(0, 0, -1));
        index("far behind", x -> x.drawn(0, 0, Integer.MAX_VALUE));
        index("far below", x -> x.drawn(0, 0, Integer.MIN_VALUE));
        define(0, 3, "<</Kind/Page/Box[-3 2 2 1]/Parts 30 R>>");
        content("-2 2 1 1 B");
        idle("a BOX elsewhere", ".#", x -> x.drawn(0, 0, 0));
        define(0, 3, "<</Kind/Page/Box[0 0 40 40]/Parts 30 R>>");
        content("0 0 1 1 B 39 39 1 1 B");
        idle("the greatest: first row", times(39, ".") + "#", x -> x.drawn(0, 0, 0));
        idle("the greatest: last row", "#" + times(39, "."), x -> x.drawn(0, 0, 39));
        index("none behind it", x -> x.drawn(0, 0, 40));
    }

    private void turned() {
        start("By TURN so many quarters to the right: the first row is what was the left column, read from below (of one quarter)");
        page(3, 2);
        content("0 0 P (c) T 1 0 P (f) T 2 0 P (i) T 0 1 P (l) T 1 1 P (o) T 2 1 P (r) T");
        String[] due = {"lor|cfi", "cl|fo|ir", "ifc|rol", "ri|of|lc"};
        for (int turn = 0; turn < 4; turn++) {
            int rows = turn % 2 == 0 ? 2 : 3;
            idle("TURN " + turn, due[turn], x -> rows(x, rows));
            index("behind the last row", x -> x.drawn(0, 0, rows));
            index("below 0", x -> x.drawn(0, 0, -1));
            does(x -> x.turnPage(0, 0, 1));
        }
        define(0, 3, "<</Kind/Page/Box[0 0 3 2]/Parts 30 R/Turn -1>>");
        idle("TURN of -1", due[3], x -> rows(x, 3));
    }

    private void found() {
        start("A WORD is FOUND in a PAGE where its SIGNS are MARKS one behind the other");
        page(40, 20);
        content("(abab) T");
        idle("a", 0, x -> x.find(0, 0, 0, 0));
        idle("the second a", 2, x -> x.find(0, 0, 0, 1));
        idle("no third a", -1, x -> x.find(0, 0, 0, 2));
        idle("far more", -1, x -> x.find(0, 0, 0, Integer.MAX_VALUE));
        idle("ba", 1, x -> x.find(0, 0, 4, 0));
        idle("bab", 1, x -> x.find(0, 0, 17, 0));
        idle("no second bab", -1, x -> x.find(0, 0, 17, 1));
        idle("no c", -1, x -> x.find(0, 0, 2, 0));
        content("(dddd) T (ddcbd) T");
        idle("999", 4, x -> x.find(0, 0, 999, 0));
        idle("dddd", 0, x -> x.find(0, 0, 255, 0));
        idle("places may share MARKS", 2, x -> x.find(0, 0, 255, 2));
        idle("as often as can be", -1, x -> x.find(0, 0, 255, 3));
        content("(ddcb) T");
        idle("a SIGN too few", -1, x -> x.find(0, 0, 999, 0));
        goOn("IllegalArgumentException if word is not 0 to 999, or k is below 0");
        argument("1000", x -> x.find(0, 0, 1000, 0));
        argument("-1", x -> x.find(0, 0, -1, 0));
        argument("k -1", x -> x.find(0, 0, 0, -1));
        argument("far below", x -> x.find(0, 0, 0, Integer.MIN_VALUE));
        argument("far above", x -> x.find(0, 0, Integer.MAX_VALUE, 0));
    }

    private void foundNot() {
        start("(by numbers, without others between), of the same height and y, each one beginning where the one ahead of it ends");
        page(40, 20);
        content("(b) T (a) T");
        idle("so", 0, x -> x.find(0, 0, 4, 0));
        content("(b) T 0 0 1 1 B (a) T");
        idle("a B between", -1, x -> x.find(0, 0, 4, 0));
        content("(b) T 0 9 P (c) T 3 0 P (a) T");
        idle("an L between", -1, x -> x.find(0, 0, 4, 0));
        content("(b) T 50 50 P (c) T 3 0 P (a) T");
        idle("what is no MARK between", 0, x -> x.find(0, 0, 4, 0));
        content("(b) T 4 0 P (a) T");
        idle("a gap", -1, x -> x.find(0, 0, 4, 0));
        content("(b) T 2 0 P (a) T");
        idle("over it", -1, x -> x.find(0, 0, 4, 0));
        content("(b) T 3 1 P (a) T");
        idle("another y", -1, x -> x.find(0, 0, 4, 0));
        content("(b) T 2 Z (a) T");
        idle("another height", -1, x -> x.find(0, 0, 4, 0));
        content("2 Z (b) T 6 0 P 1 Z 2 0 0 M 3 0 P (a) T");
        idle("the same height by SCALE", 0, x -> x.find(0, 0, 4, 0));
        content("(a) T (b) T");
        idle("the other way round", -1, x -> x.find(0, 0, 4, 0));
        content("(ba) T");
        does(x -> x.turnPage(0, 0, 1));
        idle("TURN does not matter", 0, x -> x.find(0, 0, 4, 0));
    }
}
