/** The boundaries of section 4 of the document (documents, pages) and of promises 28, 31, 36 and 37. */
public final class PageBounds extends Trial {
    private static final String NINE = "/A 1/B 1/C 1/D 1/E 1/F 1/G 1/H 1/I 1";

    public static void main(String[] args) {
        PageBounds bounds = new PageBounds();
        bounds.numbers();
        bounds.what();
        bounds.walkBegins();
        bounds.kids();
        bounds.passedOver();
        bounds.already();
        bounds.deep();
        bounds.many();
        bounds.boxes();
        bounds.boxesFromAbove();
        bounds.turns();
        bounds.formsFromAbove();
        bounds.parts();
        bounds.turnPage();
        bounds.turnRefused();
        bounds.boxPage();
        bounds.boxRefused();
        bounds.end();
    }

    /** The OBJECTS of all PAGES of DOCUMENT 0. */
    private static String pages(Pagedocument x) {
        StringBuilder told = new StringBuilder();
        for (int k = 0; k < x.ofDoc(0, 2); k++) {
            told.append(k > 0 ? " " : "").append(x.ofPage(0, k, 0));
        }
        return told.toString();
    }

    private void pagesAre(String what, String want) {
        due(what, want, PageBounds::pages);
    }

    private void numbers() {
        start("IndexOutOfBoundsException if there is no such DOCUMENT or PAGE");
        does(x -> x.newPage(0, 0, 9, 9));
        does(x -> x.newPage(0, 0, 9, 9));
        type("1");
        int[][] wrong = {{0, -1}, {0, 2}, {0, Integer.MAX_VALUE}, {0, Integer.MIN_VALUE}, {1, 0}, {-1, 0}, {2, 0},
            {Integer.MAX_VALUE, 0}, {Integer.MIN_VALUE, 0}};
        for (int[] each : wrong) {
            int doc = each[0];
            int page = each[1];
            index("ofPage", x -> x.ofPage(doc, page, 0));
            index("ofPage, and no such what", x -> x.ofPage(doc, page, 9));
            index("mark", x -> x.mark(doc, page, 0));
            index("drawn", x -> x.drawn(doc, page, 0));
            index("content", x -> x.content(doc, page));
            index("find", x -> x.find(doc, page, 0, 0));
            index("find, and no WORD", x -> x.find(doc, page, 1000, -1));
            index("movePage", x -> x.movePage(doc, page, 0));
            index("dropPage", x -> x.dropPage(doc, page));
            index("turnPage", x -> x.turnPage(doc, page, 0));
            index("turnPage, and no such turn", x -> x.turnPage(doc, page, 4));
            index("boxPage", x -> x.boxPage(doc, page, 0, 0, 1, 1));
            index("boxPage, and no such box", x -> x.boxPage(doc, page, 0, 0, 0, 0));
            index("addPart", x -> x.addPart(doc, page));
            index("addText", x -> x.addText(doc, page, 0, 0, 1, 0));
            index("addText, and no such text", x -> x.addText(doc, page, 100, 0, 0, 0));
            index("addBox", x -> x.addBox(doc, page, 0, 0, 1, 1));
            index("addBox, and no such box", x -> x.addBox(doc, page, 0, 0, 0, 1));
            index("form", x -> x.form(doc, page, 0));
            index("form, and no letter", x -> x.form(doc, page, 26));
            index("black", x -> x.black(doc, page, 0, 0, 1, 1));
            index("black, and no such box", x -> x.black(doc, page, 0, 0, 1, 0));
            index("split from", x -> x.split(doc, page, 1));
            index("note", x -> x.note(doc, page, 0, 0, 0));
            index("note, and no WORD", x -> x.note(doc, page, 0, 0, -1));
            index("noteOf", x -> x.noteOf(doc, page, 0));
            index("title", x -> x.title(doc, 0, 0, page));
            index("title, and not so deep", x -> x.title(doc, 4, 0, page));
        }
        for (int page : new int[] {-1, 2, Integer.MAX_VALUE, Integer.MIN_VALUE}) {
            index("movePage to", x -> x.movePage(0, 0, page));
            index("split to", x -> x.split(0, 1, page));
        }
        for (int doc : new int[] {-1, 2}) {
            index("newPage", x -> x.newPage(doc, 0, 1, 1));
            index("newPage, and no such size", x -> x.newPage(doc, 0, 0, 1));
            index("merge", x -> x.merge(doc));
        }
        goOn("0 and the last one are PAGES");
        idle("the first", 4, x -> x.ofPage(0, 0, 0));
        idle("the last", 3, x -> x.ofPage(0, 1, 0));
    }

    private void what() {
        start("what: 0 its OBJECT, 1 x of its BOX, 2 y, 3 w, 4 h, 5 TURN, 6 how many MARKS, 7 FAULT of its CONTENT, 8 how many NOTES");
        does(x -> x.newPage(0, 0, 9, 9));
        define(0, 3, "<</Kind/Page/Box[-1 2 33 4]/Turn 3/Parts 4 R/Notes[<</At[1 2]/Say()>>]>>");
        stream(0, 4, "0 3 1 1 B 1 3 1 1 B w");
        int[] due = {3, -1, 2, 33, 4, 3, 2, 20, 1};
        for (int k = 0; k < due.length; k++) {
            int what = k;
            idle("what " + k, due[k], x -> x.ofPage(0, 0, what));
        }
        stream(0, 4, "");
        idle("NONE without a FAULT", -1, x -> x.ofPage(0, 0, 7));
        idle("no MARK", 0, x -> x.ofPage(0, 0, 6));
        for (int what : new int[] {-1, 9, Integer.MAX_VALUE, Integer.MIN_VALUE}) {
            argument("what " + what, x -> x.ofPage(0, 0, what));
        }
    }

    private void walkBegins() {
        start("a walk begins at the OBJECT of \"Pages\" in the BOOK of the ROOT (of a ROOT that is a STREAM its BOOK)");
        define(0, 3, "<</Kind/Page>>");
        define(0, 2, "<</Kind/Tree/Kids[3 R]>>");
        pagesAre("a TREE", "3");
        define(0, 1, "<</Pages 3 R>>");
        pagesAre("a PAGE", "3");
        stream(0, 1, "");
        pagesAre("of a STREAM", "3");
        for (String root : new String[] {"<</Pages 3>>", "<</Pages[3 R]>>", "<</Pages/Page>>", "<</Pages<</Kind/Page>>>>",
            "<</Page 3 R>>", "<<>>", "3 R", "[3 R]", "null", "<</Pages 4 R>>"}) {
            define(0, 1, root);
            pagesAre("by " + root, "");
        }
        define(0, 1, "<</Kind/Page/Pages 1 R>>");
        pagesAre("the ROOT itself", "1");
        does(x -> x.drop(0, 1));
        pagesAre("no ROOT", "");
        define(0, 60, "<</Kind/Page>>");
        define(0, 1, "<</Pages 60 R>>");
        pagesAre("60", "60");
    }

    private void kids() {
        start("its \"Kids\" (a ROW of REFS; others are passed over), one by one");
        for (int n = 3; n <= 14; n++) {
            define(0, n, "<</Kind/Page>>");
        }
        define(0, 2, "<</Kind/Tree/Kids[14 R 13 R 12 R 11 R 10 R 9 R 8 R 7 R 6 R 5 R 4 R 3 R]>>");
        pagesAre("12", "14 13 12 11 10 9 8 7 6 5 4 3");
        define(0, 2, "<</Kind/Tree/Kids[3 R (4 R) /A [4 R] 5 <</A 6 R>> null true -7 8 R]>>");
        pagesAre("others", "3 8");
        for (String kids : new String[] {"3 R", "3", "<</A 3 R>>", "(3 R)", "[]", "/A", "[[3 R]]"}) {
            define(0, 2, "<</Kind/Tree/Kids " + kids + ">>");
            pagesAre("Kids " + kids, "");
        }
        define(0, 2, "<</Kind/Tree/Kid[3 R]>>");
        pagesAre("no Kids", "");
        define(0, 2, "<</Kind/Page/Kids[3 R]>>");
        pagesAre("of a PAGE", "2");
    }

    private void passedOver() {
        start("a BOOK with Kind /Page is a PAGE; all else is passed over");
        define(0, 2, "<</Kind/Tree/Kids[3 R 4 R]>>");
        define(0, 4, "<</Kind/Page>>");
        for (String value : new String[] {"<<>>", "<</Kind/Pages>>", "<</Kind/Pag>>", "<</Kind(Page)>>", "<</Kind[/Page]>>",
            "<</kind/Page>>", "<</Kind/page>>", "<</Kind/Form>>", "4 R", "/Page", "[4 R]", "null", "<</Kind/Trees/Kids[4 R]>>"}) {
            define(0, 3, value);
            pagesAre(value, "4");
        }
        define(0, 3, "<</Kind/Page>>");
        pagesAre("a PAGE", "3 4");
        stream(0, 3, "");
        pagesAre("a STREAM of that Kind", "4");
        define(0, 3, "<</Kind/Tree/Kids[5 R]>>");
        define(0, 5, "<</Kind/Page>>");
        pagesAre("a TREE", "5 4");
        stream(0, 3, "");
        pagesAre("a STREAM of Kind /Tree", "4");
        does(x -> x.drop(0, 3));
        pagesAre("not there", "4");
    }

    private void already() {
        start("also an OBJECT that was come to already");
        define(0, 3, "<</Kind/Page>>");
        define(0, 4, "<</Kind/Page>>");
        define(0, 2, "<</Kind/Tree/Kids[3 R 3 R 4 R 3 R 4 R 2 R]>>");
        pagesAre("PAGES", "3 4");
        define(0, 5, "<</Kind/Tree/Kids[4 R 2 R 5 R]/Turn 1>>");
        define(0, 2, "<</Kind/Tree/Kids[5 R 4 R 3 R 5 R]/Turn 2>>");
        pagesAre("TREES", "4 3");
        due("it has TURN of the TREE by which it was come to", 1, x -> x.ofPage(0, 0, 5));
        define(0, 2, "<</Kind/Tree/Kids[4 R 5 R 3 R]/Turn 2>>");
        pagesAre("TREES", "4 3");
        due("of the other one", 2, x -> x.ofPage(0, 0, 5));
        define(0, 2, "<</Kind/Tree/Kids[2 R]>>");
        pagesAre("of itself", "");
    }

    private void deep() {
        start("what is more than 6 deep is passed over (the first one is 1)");
        define(0, 20, "<</Kind/Page>>");
        for (int n = 10; n <= 16; n++) {
            define(0, n, "<</Kind/Tree/Kids[20 R " + (n + 1) + " R]>>");
        }
        define(0, 17, "<</Kind/Page>>");
        for (int n = 10; n <= 16; n++) {
            define(0, n, "<</Kind/Tree/Kids[" + (n + 1) + " R]>>");
        }
        int[] due = {0, 0, 1, 1, 1, 1, 1, 1};
        for (int n = 10; n <= 17; n++) {
            define(0, 1, "<</Pages " + n + " R>>");
            due("PAGE " + (18 - n) + " deep", due[n - 10], x -> x.ofDoc(0, 2));
        }
        define(0, 15, "<</Kind/Tree/Kids[20 R 16 R]>>");
        define(0, 1, "<</Pages 10 R>>");
        pagesAre("of those 7 deep none", "");
        define(0, 1, "<</Pages 11 R>>");
        pagesAre("6 deep one, 7 deep none", "20");
        define(0, 1, "<</Pages 12 R>>");
        pagesAre("both", "20 17");
    }

    private void many() {
        start("PAGES are numbered as they are come to, from 0");
        StringBuilder bodies = new StringBuilder(body(1, "<</Kind/Root/Pages 2 R>>"));
        StringBuilder kids = new StringBuilder();
        for (int tree = 3; tree <= 7; tree++) {
            StringBuilder row = new StringBuilder();
            for (int k = 0; k < (tree == 7 ? 5 : 12); k++) {
                int n = 8 + (tree - 3) * 12 + k;
                row.append(n).append(" R ");
                bodies.append(body(n, "<</Kind/Page>>"));
            }
            bodies.append(body(tree, "<</Kind/Tree/Kids[" + row + "]>>"));
            kids.append(tree).append(" R ");
        }
        repaired(bodies + body(2, "<</Kind/Tree/Kids[" + kids + "]>>"));
        due("53 PAGES", 53, x -> x.ofDoc(0, 2));
        due("the first", 8, x -> x.ofPage(0, 0, 0));
        due("the last", 60, x -> x.ofPage(0, 52, 0));
        index("none behind it", x -> x.ofPage(0, 53, 0));
    }

    /** The BOX of PAGE 0. */
    private static String box(Pagedocument x) {
        return x.ofPage(0, 0, 1) + " " + x.ofPage(0, 0, 2) + " " + x.ofPage(0, 0, 3) + " " + x.ofPage(0, 0, 4);
    }

    private void boxes() {
        start("\"Box\" (a ROW of four INTEGERS x y w h, w and h 1 to 40; otherwise it counts as none; without one 0 0 20 20)");
        define(0, 2, "<</Kind/Tree/Kids[3 R]>>");
        for (String so : new String[] {"0 0 1 1", "0 0 40 40", "-9999 9999 40 1", "9999 -9999 1 40", "1 2 3 4"}) {
            define(0, 3, "<</Kind/Page/Box[" + so + "]>>");
            due("Box " + so, so, PageBounds::box);
        }
        for (String none : new String[] {"[0 0 0 1]", "[0 0 1 0]", "[0 0 41 1]", "[0 0 1 41]", "[0 0 -1 1]", "[0 0 1 -1]",
            "[5 5 5]", "[5 5 5 5 5]", "[]", "[5 5 5 5 R]", "[5 R 5 5 5]", "[/A 5 5 5]", "[5 (5) 5 5]", "[5 5 [5] 5]",
            "[5 5 5 null]", "5", "(5 5 5 5)", "<</A[5 5 5 5]>>", "/A", "3 R", "[5 5 5 5 null]"}) {
            define(0, 3, "<</Kind/Page/Box " + none + ">>");
            due("Box " + none, "0 0 20 20", PageBounds::box);
        }
        define(0, 3, "<</Kind/Page>>");
        due("no Box", "0 0 20 20", PageBounds::box);
    }

    private void boxesFromAbove() {
        start("What a PAGE has not itself, it has from the nearest TREE above it");
        define(0, 2, "<</Kind/Tree/Kids[4 R]/Box[1 1 11 11]>>");
        define(0, 4, "<</Kind/Tree/Kids[3 R]/Box[2 2 12 12]>>");
        define(0, 3, "<</Kind/Page/Box[3 3 13 13]>>");
        due("its own", "3 3 13 13", PageBounds::box);
        define(0, 3, "<</Kind/Page/Box[3 3 41 13]>>");
        due("its own counts as none", "2 2 12 12", PageBounds::box);
        define(0, 3, "<</Kind/Page>>");
        due("of the nearest", "2 2 12 12", PageBounds::box);
        define(0, 4, "<</Kind/Tree/Kids[3 R]/Box[2 2 12]>>");
        due("that of the nearest counts as none", "1 1 11 11", PageBounds::box);
        define(0, 2, "<</Kind/Tree/Kids[4 R]/Box 1>>");
        due("none at all", "0 0 20 20", PageBounds::box);
        define(0, 1, "<</Pages 2 R/Box[5 5 5 5]>>");
        due("the ROOT is no TREE", "0 0 20 20", PageBounds::box);
    }

    private void turns() {
        start("\"Turn\" (an INTEGER, MOD 4; 0 without)");
        define(0, 2, "<</Kind/Tree/Kids[3 R]>>");
        int[][] due = {{0, 0}, {1, 1}, {2, 2}, {3, 3}, {4, 0}, {5, 1}, {9999, 3}, {-1, 3}, {-2, 2}, {-3, 1}, {-4, 0}, {-9999, 1}};
        for (int[] each : due) {
            define(0, 3, "<</Kind/Page/Turn " + each[0] + ">>");
            due("Turn " + each[0], each[1], x -> x.ofPage(0, 0, 5));
        }
        define(0, 3, "<</Kind/Page>>");
        due("without", 0, x -> x.ofPage(0, 0, 5));
        goOn("from the nearest TREE above it");
        define(0, 2, "<</Kind/Tree/Kids[4 R]/Turn 1>>");
        define(0, 4, "<</Kind/Tree/Kids[3 R]/Turn 2>>");
        due("the nearest", 2, x -> x.ofPage(0, 0, 5));
        for (String none : new String[] {"/A", "(3)", "3 R", "[3]", "true", "<<>>"}) {
            define(0, 3, "<</Kind/Page/Turn " + none + ">>");
            due("Turn " + none, 2, x -> x.ofPage(0, 0, 5));
        }
        define(0, 3, "<</Kind/Page/Turn 0>>");
        due("0 is one", 0, x -> x.ofPage(0, 0, 5));
        define(0, 3, "<</Kind/Page>>");
        define(0, 4, "<</Kind/Tree/Kids[3 R]/Turn/A>>");
        due("the one above that", 1, x -> x.ofPage(0, 0, 5));
    }

    private void formsFromAbove() {
        start("\"Forms\" (a BOOK; empty without)");
        define(0, 9, "<</Kind/Form>>");
        stream(0, 9, "0 0 1 1 B");
        define(0, 8, "<</Kind/Form>>");
        stream(0, 8, "5 5 2 2 B");
        stream(0, 7, "/A X");
        define(0, 2, "<</Kind/Tree/Kids[4 R]/Forms<</A 9 R>>>>");
        define(0, 4, "<</Kind/Tree/Kids[3 R]>>");
        define(0, 3, "<</Kind/Page/Parts 7 R>>");
        due("of a TREE", "B 0 0 1 1", x -> marks(x, 0, 0));
        define(0, 4, "<</Kind/Tree/Kids[3 R]/Forms<</A 8 R>>>>");
        due("of the nearest", "B 5 5 2 2", x -> marks(x, 0, 0));
        define(0, 4, "<</Kind/Tree/Kids[3 R]/Forms[8 R]>>");
        due("no BOOK counts as none", "B 0 0 1 1", x -> marks(x, 0, 0));
        define(0, 3, "<</Kind/Page/Parts 7 R/Forms<<>>>>");
        due("an empty one is one", "", x -> marks(x, 0, 0));
        define(0, 3, "<</Kind/Page/Parts 7 R/Forms<</B 8 R>>>>");
        due("all of its own", "", x -> marks(x, 0, 0));
        define(0, 3, "<</Kind/Page/Parts 7 R/Forms 8 R>>");
        due("a REF is none", "B 0 0 1 1", x -> marks(x, 0, 0));
        define(0, 2, "<</Kind/Tree/Kids[4 R]>>");
        due("without any", "", x -> marks(x, 0, 0));
    }

    private void contentIs(String parts, String want) {
        define(0, 3, "<</Kind/Page" + parts + ">>");
        idle("CONTENT by " + parts, want, x -> x.content(0, 0));
    }

    private void parts() {
        start("\"Parts\": a REF to a STREAM, or a ROW of these: their TEXTS (of what is none, or is BROKEN, \"\"), with a NEWLINE between two");
        repaired(body(1, "<</Kind/Root/Pages 2 R>>") + body(2, "<</Kind/Tree/Kids[3 R]>>") + body(3, "<</Kind/Page>>")
                + body(4, "", "a") + body(5, "/Filter/Run", "~3b") + body(6, "/Filter/Hex", "b") + body(7, "", "")
                + body(60, "", "z") + body(8, "", times(500, "x")));
        contentIs("", "");
        contentIs("/Parts 4 R", "a");
        contentIs("/Parts 60 R", "z");
        contentIs("/Parts 5 R", "bbb");
        contentIs("/Parts 6 R", "");
        contentIs("/Parts 2 R", "");
        contentIs("/Parts 59 R", "");
        contentIs("/Parts 4", "");
        contentIs("/Parts(a)", "");
        contentIs("/Parts<</A 4 R>>", "");
        contentIs("/Parts[]", "");
        contentIs("/Parts[4 R]", "a");
        contentIs("/Parts[4 R 4 R]", "a\na");
        contentIs("/Parts[6 R]", "");
        contentIs("/Parts[6 R 6 R]", "\n");
        contentIs("/Parts[4 R 6 R 5 R]", "a\n\nbbb");
        contentIs("/Parts[7 R 4 R 7 R]", "\na\n");
        contentIs("/Parts[4 (x) 4 R [4 R] null 59 R 2 R 60 R]", "\n\na\n\n\n\n\nz");
        contentIs("/Parts[" + times(12, "8 R ") + "]", times(11, times(500, "x") + "\n") + times(500, "x"));
    }

    private void turnPage() {
        start("Turns a PAGE (\"Turn\" in itself, MOD 4, also 0); returns TURN then");
        does(x -> x.newPage(0, 0, 9, 9));
        due("0", 0, x -> x.turnPage(0, 0, 0));
        due("a CHANGE", 2, x -> x.house(2));
        due("also 0", "<</Box [0 0 9 9] /Kind /Page /Turn 0>>", x -> x.object(0, 3));
        int[] due = {1, 3, 2, 2, 0};
        int[] quarters = {1, 2, 3, 0, 2};
        for (int k = 0; k < due.length; k++) {
            int by = quarters[k];
            due("by " + by, due[k], x -> x.turnPage(0, 0, by));
        }
        define(0, 3, "<</Kind/Page/Turn -1>>");
        due("from -1", 0, x -> x.turnPage(0, 0, 1));
        define(0, 2, "<</Kind/Tree/Kids[3 R]/Turn 2>>");
        define(0, 3, "<</Kind/Page>>");
        due("from what it has", 3, x -> x.turnPage(0, 0, 1));
        due("in itself", "<</Kind /Page /Turn 3>>", x -> x.object(0, 3));
        due("the TREE stays", "<</Kids [3 R] /Kind /Tree /Turn 2>>", x -> x.object(0, 2));
        goOn("IllegalArgumentException if quarters is not 0 to 3");
        for (int by : new int[] {-1, 4, Integer.MAX_VALUE, Integer.MIN_VALUE}) {
            argument("by " + by, x -> x.turnPage(0, 0, by));
        }
    }

    private void turnRefused() {
        start("-9 if it can not be, or the LOCK does not let it");
        does(x -> x.newPage(0, 0, 9, 9));
        define(0, 3, "<</Kind/Page" + NINE + ">>");
        refused("11 NAMES", x -> x.turnPage(0, 0, 1));
        define(0, 3, "<</Kind/Page" + NINE.substring(4) + "/Turn 1>>");
        due("10 NAMES with Turn", 2, x -> x.turnPage(0, 0, 1));
        define(0, 3, "<</Kind/Page" + NINE.substring(4) + ">>");
        due("10 NAMES then", 1, x -> x.turnPage(0, 0, 1));
        closed(6);
        refused("the LOCK", x -> x.turnPage(0, 0, 1));
        argument("exceptions go ahead", x -> x.turnPage(0, 0, 4));
        does(x -> x.open(0, 5));
        due("OPEN", 2, x -> x.turnPage(0, 0, 1));
        closed(1);
        due("the LOCK lets it", 3, x -> x.turnPage(0, 0, 1));
    }

    private void boxPage() {
        start("Tells the BOX of a PAGE (\"Box\" in itself); returns how many MARKS there are then");
        does(x -> x.newPage(0, 0, 40, 40));
        does(x -> x.addBox(0, 0, 0, 0, 1, 1));
        does(x -> x.addBox(0, 0, 39, 39, 1, 1));
        due("both", 2, x -> x.boxPage(0, 0, 0, 0, 40, 40));
        due("one", 1, x -> x.boxPage(0, 0, 1, 1, 40, 40));
        due("none", 0, x -> x.boxPage(0, 0, 1, 1, 38, 38));
        due("in itself", "<</Box [1 1 38 38] /Kind /Page /Parts [4 R 5 R]>>", x -> x.object(0, 3));
        int[][] so = {{-99, -99, 1, 1}, {99, 99, 40, 40}, {-99, 99, 40, 1}, {99, -99, 1, 40}};
        for (int[] box : so) {
            due("none in it", 0, x -> x.boxPage(0, 0, box[0], box[1], box[2], box[3]));
            due("BOX", box[0] + " " + box[1] + " " + box[2] + " " + box[3], PageBounds::box);
        }
        goOn("IllegalArgumentException if x or y is not -99 to 99, or w or h not 1 to 40");
        int[][] wrong = {{-100, 0, 1, 1}, {100, 0, 1, 1}, {0, -100, 1, 1}, {0, 100, 1, 1}, {0, 0, 0, 1}, {0, 0, 41, 1},
            {0, 0, 1, 0}, {0, 0, 1, 41}, {0, 0, -1, 1}, {0, 0, 1, -1}, {Integer.MIN_VALUE, 0, 1, 1}, {0, Integer.MAX_VALUE, 1, 1}};
        for (int[] box : wrong) {
            argument("no such box", x -> x.boxPage(0, 0, box[0], box[1], box[2], box[3]));
        }
    }

    private void boxRefused() {
        start("-9 if it can not be, or the LOCK does not let it");
        does(x -> x.newPage(0, 0, 9, 9));
        define(0, 3, "<</Kind/Page" + NINE + ">>");
        refused("11 NAMES", x -> x.boxPage(0, 0, 0, 0, 1, 1));
        define(0, 3, "<</Kind/Page" + NINE.substring(4) + ">>");
        due("10 NAMES then", 0, x -> x.boxPage(0, 0, 0, 0, 1, 1));
        due("10 NAMES with Box", 0, x -> x.boxPage(0, 0, 0, 0, 2, 2));
        closed(6);
        refused("the LOCK", x -> x.boxPage(0, 0, 0, 0, 1, 1));
        argument("exceptions go ahead", x -> x.boxPage(0, 0, 0, 0, 0, 1));
        closed(1);
        due("the LOCK lets it", 0, x -> x.boxPage(0, 0, 0, 0, 1, 1));
    }
}
