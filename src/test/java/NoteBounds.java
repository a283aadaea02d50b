/** The boundaries of section 7 of the document (notes, lines, fields, locks) and of promises 45 to 53. */
public final class NoteBounds extends Trial {
    private static final String EIGHT = "/B 1/C 1/D 1/E 1/F 1/G 1/H 1/I 1";

    public static void main(String[] args) {
        NoteBounds bounds = new NoteBounds();
        bounds.note();
        bounds.noteRefused();
        bounds.noteOf();
        bounds.notesNot();
        bounds.title();
        bounds.titleRefused();
        bounds.lineOf();
        bounds.linesNot();
        bounds.field();
        bounds.fieldRefused();
        bounds.fieldsNot();
        bounds.fill();
        bounds.fillRefused();
        bounds.valueOf();
        bounds.lock();
        bounds.codes();
        bounds.open();
        bounds.openTill();
        bounds.lets();
        bounds.alwaysLet();
        bounds.end();
    }

    private void note() {
        start("A NOTE comes behind those of a PAGE; returns how many BOOKS stand in \"Notes\" then");
        does(x -> x.newPage(0, 0, 9, 9));
        due("the first", 1, x -> x.note(0, 0, -99, 99, 0));
        due("PAGE", "<</Box [0 0 9 9] /Kind /Page /Notes [<</At [-99 99] /Say (a)>>]>>", x -> x.object(0, 3));
        due("the second", 2, x -> x.note(0, 0, 99, -99, 999));
        due("said", "99,-99 ddcbd", x -> x.noteOf(0, 0, 1));
        goOn("BOOKS, also those that are none");
        define(0, 3, "<</Kind/Page/Notes[5 <<>> (x) <</At[1 2]/Say()>> [<<>>] null <</A<<>>>>]>>");
        due("four", 4, x -> x.note(0, 0, 1, 2, 3));
        due("two NOTES", 2, x -> x.ofPage(0, 0, 8));
        due("What is not so stays", "<</Kind /Page /Notes [5 <<>> (x) <</At [1 2] /Say ()>> [<<>>] null <</A <<>>>> <</At [1 2] /Say (d)>>]>>",
                x -> x.object(0, 3));
        goOn("if the whole is none, a new one comes in its place as something is added");
        for (String notes : new String[] {"5", "(x)", "<</At[1 2]/Say()>>", "/A", "2 R", "[]", "null"}) {
            define(0, 3, "<</Kind/Page/Notes " + notes + ">>");
            due("of " + notes, 1, x -> x.note(0, 0, 1, 2, 3));
            due("PAGE", "<</Kind /Page /Notes [<</At [1 2] /Say (d)>>]>>", x -> x.object(0, 3));
        }
        goOn("IllegalArgumentException if x or y is not -99 to 99, or word not 0 to 999");
        int[][] wrong = {{-100, 0, 0}, {100, 0, 0}, {0, -100, 0}, {0, 100, 0}, {0, 0, -1}, {0, 0, 1000},
            {Integer.MAX_VALUE, 0, 0}, {0, Integer.MIN_VALUE, 0}, {0, 0, Integer.MAX_VALUE}};
        for (int[] each : wrong) {
            argument("no such NOTE", x -> x.note(0, 0, each[0], each[1], each[2]));
        }
    }

    private void noteRefused() {
        start("-9 if it can not be, or the LOCK does not let it");
        does(x -> x.newPage(0, 0, 9, 9));
        for (int k = 1; k <= 12; k++) {
            int many = k;
            due("the next", many, x -> x.note(0, 0, 0, 0, many));
        }
        refused("the 13th", x -> x.note(0, 0, 0, 0, 0));
        define(0, 3, "<</Kind/Page/Notes[" + times(12, "1 ") + "]>>");
        refused("the 13th of what are none", x -> x.note(0, 0, 0, 0, 0));
        define(0, 3, "<</Kind/Page/Notes[" + times(11, "1 ") + "]>>");
        due("the 12th of what are none", 1, x -> x.note(0, 0, 0, 0, 0));
        define(0, 3, "<</Kind/Page/A 1" + EIGHT + ">>");
        refused("11 NAMES", x -> x.note(0, 0, 0, 0, 0));
        define(0, 3, "<</Kind/Page" + EIGHT + ">>");
        due("10 NAMES", 1, x -> x.note(0, 0, 0, 0, 0));
        closed(3);
        refused("the LOCK", x -> x.note(0, 0, 0, 0, 0));
        argument("exceptions go ahead", x -> x.note(0, 0, 0, 0, -1));
        closed(4);
        due("the LOCK lets it", 2, x -> x.note(0, 0, 0, 0, 0));
    }

    private void noteOf() {
        start("Returns x, \",\", y, \" \", what it says");
        does(x -> x.newPage(0, 0, 9, 9));
        index("none", x -> x.noteOf(0, 0, 0));
        define(0, 3, "<</Kind/Page/Notes[<</At[9999 -9999]/Say()>> 7 <</At[0 -1]/Say(\\(\\)\\\\ a)/X 1>>]>>");
        idle("the first", "9999,-9999 ", x -> x.noteOf(0, 0, 0));
        idle("the last", "0,-1 ()\\ a", x -> x.noteOf(0, 0, 1));
        index("behind the last", x -> x.noteOf(0, 0, 2));
        index("below 0", x -> x.noteOf(0, 0, -1));
        index("far below", x -> x.noteOf(0, 0, Integer.MIN_VALUE));
        index("far behind", x -> x.noteOf(0, 0, Integer.MAX_VALUE));
        repaired(body(1, "<</Pages 3 R>>") + body(3, "<</Kind/Page/Notes[" + times(12, "<</At[1 2]/Say()>>") + "]>>")
                + "<</Root 1 R>>\n");
        idle("12", 12, x -> x.ofPage(0, 0, 8));
        idle("the 12th", "1,2 ", x -> x.noteOf(0, 0, 11));
        index("no 13th", x -> x.noteOf(0, 0, 12));
    }

    private void notesNot() {
        start("\"Notes\": a ROW of BOOKS with \"At\" (a ROW of x and y) and \"Say\" (a STRING): what is not so is passed over");
        does(x -> x.newPage(0, 0, 9, 9));
        for (String note : new String[] {"<</At[1]/Say()>>", "<</At[1 2 3]/Say()>>", "<</At[]/Say()>>", "<</At[1 /A]/Say()>>",
            "<</At[(1) 2]/Say()>>", "<</At[1 2 R]/Say()>>", "<</At[1 R 2]/Say()>>", "<</At[1 null]/Say()>>", "<</At 1/Say()>>",
            "<</At<</A 1/B 2>>/Say()>>", "<</Say()>>", "<</At[1 2]>>", "<</At[1 2]/Say 1>>", "<</At[1 2]/Say/A>>",
            "<</At[1 2]/Say[()]>>", "<</At[1 2]/Say 1 R>>", "<<>>", "[1 2]", "(x)", "3 R", "null", "[<</At[1 2]/Say()>>]"}) {
            define(0, 3, "<</Kind/Page/Notes[" + note + " <</At[8 9]/Say(z)>>]>>");
            idle("one beside " + note, 1, x -> x.ofPage(0, 0, 8));
            idle("it is the first", "8,9 z", x -> x.noteOf(0, 0, 0));
            index("no second", x -> x.noteOf(0, 0, 1));
        }
        for (String notes : new String[] {"<</At[1 2]/Say()>>", "5", "3 R", "[]"}) {
            define(0, 3, "<</Kind/Page/Notes " + notes + ">>");
            idle("none in " + notes, 0, x -> x.ofPage(0, 0, 8));
        }
    }

    private void title() {
        start("A LINE comes behind those of a DOCUMENT; returns how many LINES there are then");
        does(x -> x.newPage(0, 0, 9, 9));
        does(x -> x.newPage(0, 0, 9, 9));
        due("Deep 0", 1, x -> x.title(0, 0, 0, 1));
        due("ROOT", "<</Kind /Root /Lines [<</Deep 0 /Title (a) /To 3 R>>] /Pages 2 R>>", x -> x.object(0, 1));
        due("Deep 3", 2, x -> x.title(0, 3, 999, 0));
        due("told", ">>>ddcbd 0", x -> x.lineOf(0, 1));
        start("how many LINES, not what else stands there");
        does(x -> x.newPage(0, 0, 9, 9));
        does(x -> x.newPage(0, 0, 9, 9));
        define(0, 1, "<</Pages 2 R/Lines[5 <<>> <</Deep 4/Title()/To 3 R>>]>>");
        due("one", 1, x -> x.title(0, 0, 0, 0));
        due("What is not so stays", "<</Lines [5 <<>> <</Deep 4 /Title () /To 3 R>> <</Deep 0 /Title (a) /To 4 R>>] /Pages 2 R>>",
                x -> x.object(0, 1));
        goOn("if the whole is none, a new one comes in its place as something is added");
        for (String lines : new String[] {"5", "(x)", "<<>>", "/A", "2 R", "[]"}) {
            define(0, 1, "<</Pages 2 R/Lines " + lines + ">>");
            due("of " + lines, 1, x -> x.title(0, 1, 1, 0));
            due("ROOT", "<</Lines [<</Deep 1 /Title (b) /To 4 R>>] /Pages 2 R>>", x -> x.object(0, 1));
        }
        goOn("IllegalArgumentException if deep is not 0 to 3, or word not 0 to 999");
        int[][] wrong = {{-1, 0}, {4, 0}, {0, -1}, {0, 1000}, {Integer.MAX_VALUE, 0}, {0, Integer.MIN_VALUE}};
        for (int[] each : wrong) {
            argument("no such LINE", x -> x.title(0, each[0], each[1], 0));
        }
    }

    private void titleRefused() {
        start("-9 if it can not be, or the LOCK does not let it");
        does(x -> x.newPage(0, 0, 9, 9));
        for (int k = 1; k <= 12; k++) {
            int many = k;
            due("the next", many, x -> x.title(0, 0, 0, 0));
            due("told", "a 0", x -> x.lineOf(0, many - 1));
        }
        index("no 13th", x -> x.lineOf(0, 12));
        refused("the 13th", x -> x.title(0, 0, 0, 0));
        define(0, 1, "<</Pages 2 R/Lines[" + times(12, "1 ") + "]>>");
        refused("the 13th of what are none", x -> x.title(0, 0, 0, 0));
        define(0, 1, "<</Pages 2 R/A 1" + EIGHT + ">>");
        refused("11 NAMES", x -> x.title(0, 0, 0, 0));
        define(0, 1, "<</Pages 2 R" + EIGHT + ">>");
        due("10 NAMES", 1, x -> x.title(0, 0, 0, 0));
        due("10 NAMES with Lines", 2, x -> x.title(0, 0, 0, 0));
        closed(3);
        refused("the LOCK", x -> x.title(0, 0, 0, 0));
        argument("exceptions go ahead", x -> x.title(0, 4, 0, 0));
        closed(4);
        due("the LOCK lets it", 3, x -> x.title(0, 0, 0, 0));
        does(x -> x.open(0, 5));
        define(0, 1, "<</Pages 2 R>>");
        stream(0, 1, "x");
        refused("the ROOT is a STREAM", x -> x.title(0, 0, 0, 0));
    }

    private void lineOf() {
        start("Returns deep times \">\", Title, \" \", the number of the PAGE (\"-\" if its REF leads to none)");
        index("none", x -> x.lineOf(0, 0));
        for (int k = 0; k < 12; k++) {
            does(x -> x.newPage(0, 0, 1, 1));
        }
        define(0, 1, "<</Pages 2 R/Lines[<</Deep 0/Title()/To 14 R>> 7 <</Deep 1/Title(\\(\\)\\\\ )/To 3 R>>"
                + "<</Deep 2/Title(x)/To 60 R>><</Deep 3/Title(>)/To 2 R/X 1>>]>>");
        idle("the first PAGE", " 0", x -> x.lineOf(0, 0));
        idle("the last PAGE", ">()\\  11", x -> x.lineOf(0, 1));
        idle("to what is not there", ">>x -", x -> x.lineOf(0, 2));
        idle("to what is none", ">>>> -", x -> x.lineOf(0, 3));
        index("behind the last", x -> x.lineOf(0, 4));
        index("below 0", x -> x.lineOf(0, -1));
        index("far below", x -> x.lineOf(0, Integer.MIN_VALUE));
        index("far behind", x -> x.lineOf(0, Integer.MAX_VALUE));
        index("DOCUMENT -1", x -> x.lineOf(-1, 0));
        index("DOCUMENT 2", x -> x.lineOf(2, 0));
        define(1, 1, "<</Lines[<</Deep 0/Title()/To 1 R>>]>>");
        idle("to number 1", " -", x -> x.lineOf(1, 0));
        does(x -> x.dropPage(0, 11));
        idle("a PAGE that was dropped", ">()\\  -", x -> x.lineOf(0, 1));
        does(x -> x.movePage(0, 0, 10));
        idle("a PAGE that was moved", " 10", x -> x.lineOf(0, 0));
    }

    private void linesNot() {
        start("\"Lines\": a ROW of BOOKS with \"Deep\" (0 to 3), \"Title\" (a STRING) and \"To\" (a REF): what is not so is passed over");
        for (String line : new String[] {"<</Deep -1/Title()/To 3 R>>", "<</Deep 4/Title()/To 3 R>>", "<</Deep/A/Title()/To 3 R>>",
            "<</Deep 1 R/Title()/To 3 R>>", "<</Title()/To 3 R>>", "<</Deep 0/To 3 R>>", "<</Deep 0/Title 1/To 3 R>>",
            "<</Deep 0/Title/A/To 3 R>>", "<</Deep 0/Title()>>", "<</Deep 0/Title()/To 3>>", "<</Deep 0/Title()/To[3 R]>>",
            "<</Deep(0)/Title()/To 3 R>>", "<<>>", "[]", "3 R", "null", "(x)"}) {
            define(0, 1, "<</Lines[" + line + " <</Deep 3/Title(z)/To 3 R>>]>>");
            idle("one beside " + line, 1, x -> x.ofDoc(0, 4));
            idle("it is the first", ">>>z -", x -> x.lineOf(0, 0));
            index("no second", x -> x.lineOf(0, 1));
        }
        for (String lines : new String[] {"<</Deep 0/Title()/To 3 R>>", "5", "3 R", "[]"}) {
            define(0, 1, "<</Lines " + lines + ">>");
            idle("none in " + lines, 0, x -> x.ofDoc(0, 4));
        }
        define(0, 1, "<</Lines[<</Deep 3/Title(z)/To 3 R>>]>>");
        stream(0, 1, "x");
        idle("of a ROOT that is a STREAM", 1, x -> x.ofDoc(0, 4));
        define(0, 1, "[<</Deep 3/Title(z)/To 3 R>>]");
        idle("of a ROOT that is no BOOK", 0, x -> x.ofDoc(0, 4));
        does(x -> x.drop(0, 1));
        idle("without a ROOT", 0, x -> x.ofDoc(0, 4));
    }

    private void field() {
        start("A FIELD with a NAME of one letter and Value \"\" comes, in place of one that has it; returns how many FIELDS there are then");
        due("A", 1, x -> x.field(0, 0, 1));
        due("ROOT", "<</Fields <</A <</Most 1 /Value ()>>>> /Kind /Root /Pages 2 R>>", x -> x.object(0, 1));
        due("Z", 2, x -> x.field(0, 25, 9));
        does(x -> x.fill(0, 25, 999));
        due("in its place", 2, x -> x.field(0, 25, 2));
        due("Value goes", "", x -> x.valueOf(0, 25));
        due("ROOT", "<</Fields <</A <</Most 1 /Value ()>> /Z <</Most 2 /Value ()>>>> /Kind /Root /Pages 2 R>>", x -> x.object(0, 1));
        goOn("how many FIELDS, not what else stands there");
        define(0, 1, "<</Fields<</A 5/B<<>>/Cc<</Most 1/Value()>>>>>>");
        due("two", 2, x -> x.field(0, 3, 1));
        due("What is not so stays", "<</Fields <</A 5 /B <<>> /Cc <</Most 1 /Value ()>> /D <</Most 1 /Value ()>>>>>>", x -> x.object(0, 1));
        due("in place of what is none", 3, x -> x.field(0, 0, 1));
        goOn("if the whole is none, a new one comes in its place as something is added");
        for (String fields : new String[] {"5", "(x)", "[]", "/A", "2 R", "<<>>"}) {
            define(0, 1, "<</Fields " + fields + ">>");
            due("of " + fields, 1, x -> x.field(0, 1, 3));
            due("ROOT", "<</Fields <</B <</Most 3 /Value ()>>>>>>", x -> x.object(0, 1));
        }
        goOn("IllegalArgumentException if letter is not 0 to 25, or most not 1 to 9");
        int[][] wrong = {{-1, 1}, {26, 1}, {0, 0}, {0, 10}, {0, -1}, {Integer.MAX_VALUE, 1}, {0, Integer.MIN_VALUE}};
        for (int[] each : wrong) {
            argument("no such FIELD", x -> x.field(0, each[0], each[1]));
        }
        index("DOCUMENT -1, and no letter", x -> x.field(-1, 26, 1));
        index("DOCUMENT 2", x -> x.field(2, 0, 1));
    }

    private void fieldRefused() {
        start("-9 if it can not be, or the LOCK does not let it");
        for (int k = 0; k < 10; k++) {
            int letter = k;
            due("the next", letter + 1, x -> x.field(0, letter, 1));
        }
        refused("the 11th", x -> x.field(0, 10, 1));
        due("one of the 10", 10, x -> x.field(0, 9, 2));
        define(0, 1, "<</Kind/Root/A 1" + EIGHT + ">>");
        refused("11 NAMES", x -> x.field(0, 0, 1));
        define(0, 1, "<</Kind/Root" + EIGHT + ">>");
        due("10 NAMES", 1, x -> x.field(0, 0, 1));
        closed(3);
        refused("the LOCK", x -> x.field(0, 0, 1));
        argument("exceptions go ahead", x -> x.field(0, 0, 0));
        closed(4);
        due("the LOCK lets it", 2, x -> x.field(0, 1, 1));
        does(x -> x.open(0, 5));
        define(0, 1, "<</Fields<</A<</Most 1/Value()>>>>>>");
        stream(0, 1, "x");
        refused("the ROOT is a STREAM", x -> x.field(0, 1, 1));
        refused("fill, too", x -> x.fill(0, 0, 1));
        idle("its FIELDS are told", "", x -> x.valueOf(0, 0));
        define(0, 1, "[1]");
        refused("the ROOT is no BOOK", x -> x.field(0, 1, 1));
        does(x -> x.drop(0, 1));
        refused("without a ROOT", x -> x.field(0, 1, 1));
        refused("title without PAGES is none", x -> x.fill(0, 0, 1));
    }

    private void fieldsNot() {
        start("\"Fields\": a BOOK of BOOKS with \"Most\" (how long) and \"Value\" (a STRING): what is not so is passed over");
        for (String field : new String[] {"<</Value()>>", "<</Most 3>>", "<</Most/A/Value()>>", "<</Most(3)/Value()>>",
            "<</Most 3 R/Value()>>", "<</Most[3]/Value()>>", "<</Most 3/Value 3>>", "<</Most 3/Value/A>>", "<</Most 3/Value[()]>>",
            "<</Most 3/Value 3 R>>", "<<>>", "[3 ()]", "3", "()", "3 R"}) {
            define(0, 1, "<</Fields<</A " + field + "/B<</Most 9/Value(z)>>>>>>");
            idle("one beside " + field, 1, x -> x.ofDoc(0, 5));
            idle("none", "-", x -> x.valueOf(0, 0));
            idle("the other one", "z", x -> x.valueOf(0, 1));
            refused("fill", x -> x.fill(0, 0, 0));
        }
        for (String fields : new String[] {"[<</Most 3/Value()>>]", "5", "3 R", "<<>>"}) {
            define(0, 1, "<</Fields " + fields + ">>");
            idle("none in " + fields, 0, x -> x.ofDoc(0, 5));
            idle("none", "-", x -> x.valueOf(0, 0));
        }
        define(0, 1, "<</Fields<</A<</Most 1/Value()>>/B<</Most 1/Value()>>/C<</Most 1/Value()>>/D<</Most 1/Value()>>"
                + "/Ee<</Most 1/Value()>>/F<</Most 1/Value()>>>>>>");
        idle("any NAMES", 6, x -> x.ofDoc(0, 5));
        for (int k = 6; k < 10; k++) {
            int letter = k;
            does(x -> x.field(0, letter, 1));
        }
        idle("10", 10, x -> x.ofDoc(0, 5));
    }

    private void fill() {
        start("Tells the Value of a FIELD (all else in its BOOK stays); returns how long it is");
        does(x -> x.field(0, 0, 5));
        due("5", 5, x -> x.fill(0, 0, 999));
        due("Value", "ddcbd", x -> x.valueOf(0, 0));
        due("1", 1, x -> x.fill(0, 0, 0));
        due("Value", "a", x -> x.valueOf(0, 0));
        define(0, 1, "<</Fields<</Z<</A[1]/Most 2/Value(long as it was)/X null/Y 3 R>>/B 5>>/A 1>>");
        due("2", 2, x -> x.fill(0, 25, 15));
        due("all else stays", "<</A 1 /Fields <</B 5 /Z <</A [1] /Most 2 /Value (dd) /Y 3 R>>>>>>", x -> x.object(0, 1));
        goOn("or that is longer than Most");
        refused("3 of 2", x -> x.fill(0, 25, 16));
        does(x -> x.field(0, 0, 1));
        due("1 of 1", 1, x -> x.fill(0, 0, 3));
        refused("2 of 1", x -> x.fill(0, 0, 4));
        does(x -> x.field(0, 0, 4));
        due("4 of 4", 4, x -> x.fill(0, 0, 255));
        refused("5 of 4", x -> x.fill(0, 0, 256));
        define(0, 1, "<</Fields<</A<</Most 0/Value()>>/B<</Most -5/Value()>>/C<</Most 9999/Value()>>>>>>");
        refused("1 of 0", x -> x.fill(0, 0, 0));
        refused("1 of -5", x -> x.fill(0, 1, 0));
        due("5 of 9999", 5, x -> x.fill(0, 2, 999));
    }

    private void fillRefused() {
        start("-9 if there is no such FIELD, or the LOCK does not let it");
        refused("no FIELDS", x -> x.fill(0, 0, 0));
        does(x -> x.field(0, 0, 5));
        refused("another letter", x -> x.fill(0, 1, 0));
        closed(3);
        refused("the LOCK", x -> x.fill(0, 0, 0));
        argument("exceptions go ahead", x -> x.fill(0, 0, 1000));
        closed(4);
        due("the LOCK lets it", 1, x -> x.fill(0, 0, 0));
        goOn("IllegalArgumentException if letter is not 0 to 25, or word not 0 to 999");
        int[][] wrong = {{-1, 0}, {26, 0}, {0, -1}, {0, 1000}, {Integer.MIN_VALUE, 0}, {0, Integer.MAX_VALUE}};
        for (int[] each : wrong) {
            argument("no such", x -> x.fill(0, each[0], each[1]));
        }
        index("DOCUMENT -1, and no letter", x -> x.fill(-1, 26, 0));
        index("DOCUMENT 2", x -> x.fill(2, 0, 0));
    }

    private void valueOf() {
        start("Returns value of that FIELD; \"-\" without it");
        idle("no FIELDS", "-", x -> x.valueOf(0, 0));
        define(0, 1, "<</Fields<</A<</Most 1/Value(\\(\\)\\\\ -)>>/Z<</Most 1/Value()>>/AA<</Most 1/Value(x)>>>>>>");
        idle("A", "()\\ -", x -> x.valueOf(0, 0));
        idle("Z", "", x -> x.valueOf(0, 25));
        idle("B", "-", x -> x.valueOf(0, 1));
        goOn("IllegalArgumentException if letter is not 0 to 25");
        for (int letter : new int[] {-1, 26, Integer.MAX_VALUE, Integer.MIN_VALUE}) {
            argument("letter " + letter, x -> x.valueOf(0, letter));
        }
        index("DOCUMENT -1, and no letter", x -> x.valueOf(-1, 26));
        index("DOCUMENT 2", x -> x.valueOf(2, 0));
    }

    private void lock() {
        start("LOCKS a DOCUMENT by a KEY (or takes the LOCK away; it is OPEN then); returns 1 if it had one, otherwise 0");
        due("taken away without one", 0, x -> x.lock(0, -1, 7));
        due("a CHANGE as well", 1, x -> x.house(2));
        due("Lets without a LOCK", 7, x -> x.ofDoc(0, 9));
        due("new", 0, x -> x.lock(0, 999, 0));
        due("LOCK", 1, x -> x.ofDoc(0, 6));
        due("OPEN", 1, x -> x.ofDoc(0, 7));
        due("Lets", 0, x -> x.ofDoc(0, 9));
        due("another", 1, x -> x.lock(0, 0, 7));
        due("Lets", 7, x -> x.ofDoc(0, 9));
        due("taken away", 1, x -> x.lock(0, -1, 0));
        due("no LOCK", 0, x -> x.ofDoc(0, 6));
        due("the other DOCUMENT", 0, x -> x.ofDoc(1, 6));
        goOn("-9 if it is not OPEN");
        closed(7);
        refused("another", x -> x.lock(0, 5, 7));
        refused("taken away", x -> x.lock(0, -1, 0));
        argument("exceptions go ahead", x -> x.lock(0, 1000, 0));
        does(x -> x.open(0, 5));
        due("OPEN", 1, x -> x.lock(0, 6, 7));
        goOn("IllegalArgumentException if key is not -1 to 999, or lets not 0 to 7");
        int[][] wrong = {{-2, 0}, {1000, 0}, {0, -1}, {0, 8}, {-1, -1}, {-1, 8}, {Integer.MIN_VALUE, 0}, {0, Integer.MAX_VALUE}};
        for (int[] each : wrong) {
            argument("no such LOCK", x -> x.lock(0, each[0], each[1]));
        }
        index("DOCUMENT -1, and no KEY", x -> x.lock(-1, 1000, 0));
        index("DOCUMENT 2", x -> x.lock(2, 0, 0));
    }

    private void codes() {
        start("Code of a KEY (a number 0 to 999) is (KEY * 7 + 3) MOD 97");
        int[][] due = {{0, 3}, {1, 10}, {13, 94}, {14, 4}, {83, 2}, {96, 93}, {97, 3}, {98, 10}, {999, 12}, {998, 5}, {27, 95},
            {41, 96}, {55, 0}};
        for (int[] each : due) {
            does(x -> x.lock(0, each[0], 5));
            does(x -> x.write(0, 0, false));
            due("Code of " + each[0], true, x -> whole(x, 0).contains("<</Lock <</Code " + each[1] + " /Lets 5>> /Root"));
        }
    }

    private void open() {
        start("Tells a KEY; returns 1 if it is OPEN then, otherwise 0");
        due("without a LOCK", 1, x -> x.open(0, 0));
        closed(0);
        due("another KEY", 0, x -> x.open(0, 6));
        due("Code 3", 0, x -> x.open(0, 0));
        due("the greatest", 0, x -> x.open(0, 999));
        due("no CHANGE", 2, x -> x.house(2));
        due("another one of that Code", 1, x -> x.open(0, 102));
        due("OPEN", 1, x -> x.ofDoc(0, 7));
        due("a wrong one does not matter any more", 1, x -> x.open(0, 6));
        due("no CHANGE", 2, x -> x.house(2));
        goOn("IllegalArgumentException if key is not 0 to 999");
        for (int key : new int[] {-1, 1000, Integer.MAX_VALUE, Integer.MIN_VALUE}) {
            argument("KEY " + key, x -> x.open(0, key));
        }
        index("DOCUMENT -1, and no KEY", x -> x.open(-1, -1));
        index("DOCUMENT 2", x -> x.open(2, 0));
        goOn("all KEYS from 0 to 999 of one Code");
        closed(0);
        for (int key = 0; key < 1000; key++) {
            int one = key;
            if (key % 97 == 5) {
                due("KEY " + key, 1, x -> x.open(0, one));
                does(x -> x.read(0, 0));
            } else if (key % 10 == 0) {
                due("KEY " + key, 0, x -> x.open(0, one));
            }
        }
    }

    private void openTill() {
        start("OPEN as one tells a KEY with that Code (or as it was locked), till it is READ, REPAIRED or made NEW");
        does(x -> x.lock(0, 5, 0));
        due("as it was locked", 3, x -> x.newPage(0, 0, 1, 1));
        does(x -> x.write(0, 0, false));
        due("WRITTEN", 1, x -> x.ofDoc(0, 7));
        does(x -> x.newPage(0, 0, 1, 1));
        does(x -> x.update(0));
        due("by an UPDATE", 1, x -> x.ofDoc(0, 7));
        does(x -> x.read(0, 0));
        due("READ", 0, x -> x.ofDoc(0, 7));
        does(x -> x.open(0, 5));
        does(x -> x.lock(0, 6, 1));
        due("locked anew", 1, x -> x.ofDoc(0, 7));
        does(x -> x.read(0, 0));
        does(x -> x.open(0, 5));
        does(x -> x.merge(0));
        due("a CHANGE", 1, x -> x.ofDoc(0, 7));
        goOn("a READ with a FAULT, a REPAIR that can not be leave it");
        file(1, "x");
        idle("READ", -1, x -> x.read(1, 0));
        refused("REPAIR", x -> x.repair(1, 0));
        due("OPEN", 1, x -> x.ofDoc(0, 7));
    }

    private void lets() {
        start("one that is not OPEN lets what Lets tells: 0 PAGES, 1 CONTENTS and OBJECTS, 2 NOTES, LINES and FIELDS");
        Call[][] calls = {
            {x -> x.turnPage(0, 0, 1), x -> x.boxPage(0, 0, 0, 0, 9, 9), x -> x.newPage(0, 0, 1, 1), x -> x.movePage(0, 0, 1),
                x -> x.dropPage(0, 0), x -> x.merge(0)},
            {x -> x.addText(0, 0, 0, 0, 1, 1), x -> x.addBox(0, 0, 0, 0, 1, 1), x -> x.addPart(0, 0), x -> x.form(0, 0, 0),
                x -> x.black(0, 0, 0, 0, 1, 1), x -> x.define(0, 4), x -> x.stream(0, 4), x -> x.filter(0, 4, 1, -1, -1),
                x -> x.drop(0, 60), x -> x.sweep(0)},
            {x -> x.note(0, 0, 0, 0, 1), x -> x.title(0, 0, 0, 0), x -> x.field(0, 1, 1), x -> x.fill(0, 0, 1)}};
        for (int k = 0; k < 8; k++) {
            int lets = k;
            for (int kind = 0; kind < 3; kind++) {
                for (int m = 0; m < calls[kind].length; m++) {
                    start("Lets " + lets + ", kind " + kind + ", call " + m);
                    does(x -> x.newPage(0, 0, 9, 9));
                    does(x -> x.newPage(0, 0, 9, 9));
                    does(x -> x.field(0, 0, 9));
                    type("5");
                    closed(lets);
                    Call call = calls[kind][m];
                    boolean isStream = kind == 1 && m == 7;
                    if ((lets >> kind & 1) == 0) {
                        refused("not let", call);
                    } else if (isStream) {
                        does(x -> x.stream(0, 4));
                        due("let", 1, call);
                    } else {
                        does(call);
                    }
                    does(x -> x.open(0, 5));
                    if (isStream) {
                        does(x -> x.stream(0, 4));
                    }
                    does(call);
                }
            }
        }
    }

    private void alwaysLet() {
        start("undo(), split(), READ, REPAIR, NEW and all that is no CHANGE are always let");
        does(x -> x.newPage(0, 0, 9, 9));
        closed(0);
        due("split", 1, x -> x.split(0, 0, 0));
        due("write", true, x -> x.write(0, 1, false) > 0);
        due("update", 0, x -> x.update(0));
        due("isSound", true, Pagedocument::isSound);
        due("hurt", 37, x -> x.hurt(1, 0, 37));
        due("read", 3, x -> x.read(1, 0));
        due("repair", 3, x -> x.repair(1, 0));
        does(Pagedocument::undo);
        due("not OPEN", 0, x -> x.ofDoc(0, 7));
        due("undo", 2, Pagedocument::undo);
        due("fresh", 3, x -> x.fresh(0));
        due("OPEN", 1, x -> x.ofDoc(0, 7));
    }
}
