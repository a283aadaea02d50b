/** The boundaries of section 6 of the document (changes of pages) and of promises 33 to 35 and 38 to 44. */
public final class ChangeBounds extends Trial {
    private static final String EIGHT = "/B 1/C 1/D 1/E 1/F 1/G 1/H 1/I 1";

    public static void main(String[] args) {
        ChangeBounds bounds = new ChangeBounds();
        bounds.newPage();
        bounds.newPageRefused();
        bounds.firstNumber();
        bounds.movePage();
        bounds.movePageRefused();
        bounds.dropPage();
        bounds.flatPages();
        bounds.flatTree();
        bounds.flatRoot();
        bounds.flatRefused();
        bounds.flatMany();
        bounds.addPart();
        bounds.addPartRefused();
        bounds.addText();
        bounds.addBox();
        bounds.form();
        bounds.formRefused();
        bounds.black();
        bounds.blackEdges();
        bounds.blackMarks();
        bounds.blackRefused();
        bounds.blackLengths();
        bounds.merge();
        bounds.mergeNumbers();
        bounds.mergeRefs();
        bounds.mergeRefused();
        bounds.split();
        bounds.splitCopies();
        bounds.splitRefused();
        bounds.end();
    }

    /** All numbers of DOCUMENT 0 from one to another are taken. */
    private void taken(int from, int to) {
        type("1");
        for (int n = from; n <= to; n++) {
            int object = n;
            does(x -> x.define(0, object));
        }
    }

    private void newPage() {
        start("A new PAGE, with \"Box\" 0 0 w h alone; returns its OBJECT");
        due("the first", 3, x -> x.newPage(0, 0, 1, 40));
        due("a CHANGE", 1, x -> x.house(2));
        due("OBJECT", "<</Box [0 0 1 40] /Kind /Page>>", x -> x.object(0, 3));
        due("at the end", 4, x -> x.newPage(0, 1, 40, 1));
        due("at the begin", 5, x -> x.newPage(0, 0, 2, 2));
        due("between", 6, x -> x.newPage(0, 1, 3, 3));
        due("Kids and Count", "<</Count 4 /Kids [5 R 6 R 3 R 4 R] /Kind /Tree>>", x -> x.object(0, 2));
        goOn("A new OBJECT has the smallest number that none has");
        define(0, 8, "1");
        does(x -> x.drop(0, 4));
        due("4", 4, x -> x.newPage(0, 0, 1, 1));
        due("7", 7, x -> x.newPage(0, 0, 1, 1));
        due("9", 9, x -> x.newPage(0, 0, 1, 1));
        goOn("IllegalArgumentException if at is not such one, or w or h not 1 to 40");
        does(x -> x.newPage(1, 0, 1, 1));
        argument("at", x -> x.newPage(0, 7, 1, 1));
        argument("at", x -> x.newPage(0, -1, 1, 1));
        argument("at", x -> x.newPage(0, Integer.MAX_VALUE, 1, 1));
        argument("at behind the only one", x -> x.newPage(1, 2, 1, 1));
        argument("w", x -> x.newPage(0, 0, 0, 1));
        argument("w", x -> x.newPage(0, 0, 41, 1));
        argument("w", x -> x.newPage(0, 0, -1, 1));
        argument("h", x -> x.newPage(0, 0, 1, 0));
        argument("h", x -> x.newPage(0, 0, 1, 41));
        argument("h", x -> x.newPage(0, 0, 1, Integer.MIN_VALUE));
    }

    private void newPageRefused() {
        start("At most 12 PAGES fit into Kids");
        for (int k = 0; k < 11; k++) {
            int at = k;
            does(x -> x.newPage(0, at, 1, 1));
        }
        due("the 12th", 14, x -> x.newPage(0, 11, 1, 1));
        refused("the 13th", x -> x.newPage(0, 12, 1, 1));
        argument("exceptions go ahead", x -> x.newPage(0, 13, 1, 1));
        goOn("if none of 1 to 60 is left, the act is REFUSED");
        start("if none of 1 to 60 is left, the act is REFUSED");
        taken(3, 59);
        due("the last number", 60, x -> x.newPage(0, 0, 1, 1));
        refused("none is left", x -> x.newPage(0, 0, 1, 1));
        goOn("-9 if the LOCK does not let it");
        does(x -> x.fresh(0));
        closed(6);
        refused("the LOCK", x -> x.newPage(0, 0, 1, 1));
        argument("exceptions go ahead", x -> x.newPage(0, 1, 1, 1));
        closed(1);
        due("the LOCK lets it", 3, x -> x.newPage(0, 0, 1, 1));
    }

    /** DOCUMENT 0 becomes one with ROOT 9 and a PAGE 8, and no OBJECTS of small numbers. */
    private void ninth(String pages) {
        repaired(body(9, "<</Kind/Root/Pages " + pages + ">>") + body(7, "<</Kind/Tree/Kids[8 R]>>") + body(8, "<</Kind/Page>>"));
    }

    private void firstNumber() {
        start("A new OBJECT has the smallest number that none has: 1");
        type("0 0 1 1 B");
        ninth("7 R");
        due("newPage", 1, x -> x.newPage(0, 1, 1, 1));
        ninth("8 R");
        due("newPage behind its TREE", 2, x -> x.newPage(0, 1, 1, 1));
        due("TREE", "<</Count 2 /Kids [8 R 2 R] /Kind /Tree>>", x -> x.object(0, 1));
        ninth("7 R");
        due("addPart", 1, x -> x.addPart(0, 0));
        due("form", 2, x -> x.form(0, 0, 0));
        ninth("7 R");
        type("0 0 1 1 B");
        due("form", 1, x -> x.form(0, 0, 0));
        ninth("7 R");
        type("0 0 1 1 B");
        does(x -> x.stream(0, 2));
        define(0, 8, "<</Kind/Page/Parts 2 R>>");
        due("black", 1, x -> x.black(0, 0, 0, 0, 1, 1));
        due("its CONTENT", "<<>> data", x -> x.object(0, 1));
        does(x -> x.newPage(1, 0, 5, 5));
        due("merge", 2, x -> x.merge(0));
        due("3 is that of b", "<</Box [0 0 5 5] /Kind /Page>>", x -> x.object(0, 3));
        ninth("7 R");
        due("merge", 2, x -> x.merge(0));
        due("1 is that of b", "<</Box [0 0 5 5] /Kind /Page>>", x -> x.object(0, 1));
        ninth("7 R");
        does(x -> x.write(0, 0, true));
        due("a PACK", true, x -> whole(x, 0).contains("table\n1 4\n7 p1.0\n8 p1.1\n9 p1.2\nlast\n<</Root 9 R /Size 10>>"));
    }

    private void movePage() {
        start("Moves a PAGE; returns its OBJECT");
        for (int k = 0; k < 4; k++) {
            int at = k;
            does(x -> x.newPage(0, at, 1, 1));
        }
        due("to the end", 3, x -> x.movePage(0, 0, 3));
        due("Kids", "<</Count 4 /Kids [4 R 5 R 6 R 3 R] /Kind /Tree>>", x -> x.object(0, 2));
        due("to the begin", 3, x -> x.movePage(0, 3, 0));
        due("Kids", "<</Count 4 /Kids [3 R 4 R 5 R 6 R] /Kind /Tree>>", x -> x.object(0, 2));
        due("by one", 4, x -> x.movePage(0, 1, 2));
        due("Kids", "<</Count 4 /Kids [3 R 5 R 4 R 6 R] /Kind /Tree>>", x -> x.object(0, 2));
        due("back by one", 6, x -> x.movePage(0, 3, 2));
        due("Kids", "<</Count 4 /Kids [3 R 5 R 6 R 4 R] /Kind /Tree>>", x -> x.object(0, 2));
        due("to itself", 5, x -> x.movePage(0, 1, 1));
        due("Kids", "<</Count 4 /Kids [3 R 5 R 6 R 4 R] /Kind /Tree>>", x -> x.object(0, 2));
        due("a CHANGE as well", 4, x -> x.house(2));
        goOn("IndexOutOfBoundsException if there is no such DOCUMENT or PAGE (page, to)");
        index("page", x -> x.movePage(0, 4, 0));
        index("page", x -> x.movePage(0, -1, 0));
        index("to", x -> x.movePage(0, 0, 4));
        index("to", x -> x.movePage(0, 0, -1));
    }

    private void movePageRefused() {
        start("-9 if it can not be, or the LOCK does not let it");
        does(x -> x.newPage(0, 0, 1, 1));
        closed(6);
        refused("movePage", x -> x.movePage(0, 0, 0));
        refused("dropPage", x -> x.dropPage(0, 0));
        index("exceptions go ahead", x -> x.movePage(0, 0, 1));
        index("exceptions go ahead", x -> x.dropPage(0, 1));
        closed(1);
        due("movePage", 3, x -> x.movePage(0, 0, 0));
        due("dropPage", 0, x -> x.dropPage(0, 0));
    }

    private void dropPage() {
        start("Drops a PAGE (its OBJECT stays, come to no more by that); returns how many are left");
        for (int k = 0; k < 3; k++) {
            int at = k;
            does(x -> x.newPage(0, at, 1, 1));
        }
        due("between", 2, x -> x.dropPage(0, 1));
        due("Kids", "<</Count 2 /Kids [3 R 5 R] /Kind /Tree>>", x -> x.object(0, 2));
        due("its OBJECT", "<</Box [0 0 1 1] /Kind /Page>>", x -> x.object(0, 4));
        due("come to no more", false, x -> x.isReached(0, 4));
        due("the last", 1, x -> x.dropPage(0, 1));
        due("the only one", 0, x -> x.dropPage(0, 0));
        due("Kids", "<</Count 0 /Kids [] /Kind /Tree>>", x -> x.object(0, 2));
        index("none is left", x -> x.dropPage(0, 0));
    }

    private void flatPages() {
        start("each PAGE gets \"Box\", \"Turn\" (if not 0) and \"Forms\" (if not empty) as it has them, in itself");
        define(0, 2, "<</Kind/Tree/Kids[3 R 4 R 5 R 6 R]/Box[1 1 5 5]/Turn 5/Forms<</A 9 R>>/Count 9/X 1>>");
        define(0, 3, "<</Kind/Page/Turn 4/Forms<<>>/Z(z)>>");
        define(0, 4, "<</Kind/Tree/Kids[7 R]/Turn 2/Box[2 2 6 6]/Forms<<>>>>");
        define(0, 5, "<</Kind/Page>>");
        define(0, 6, "<</Kind/Page/Box[3 3 7 7]/Turn -1/Forms<</B 9 R>>>>");
        define(0, 7, "<</Kind/Page>>");
        due("made FLAT", 3, x -> x.movePage(0, 0, 0));
        due("the BOOK at Pages", "<</Count 4 /Kids [3 R 7 R 5 R 6 R] /Kind /Tree>>", x -> x.object(0, 2));
        due("\"Turn\" of 0 and an empty \"Forms\" go", "<</Box [1 1 5 5] /Kind /Page /Z (z)>>", x -> x.object(0, 3));
        due("a TREE in it stays", "<</Box [2 2 6 6] /Forms <<>> /Kids [7 R] /Kind /Tree /Turn 2>>", x -> x.object(0, 4));
        due("of the TREE", "<</Box [1 1 5 5] /Forms <</A 9 R>> /Kind /Page /Turn 1>>", x -> x.object(0, 5));
        due("its own", "<</Box [3 3 7 7] /Forms <</B 9 R>> /Kind /Page /Turn 3>>", x -> x.object(0, 6));
        due("of the nearest", "<</Box [2 2 6 6] /Kind /Page /Turn 2>>", x -> x.object(0, 7));
        start("without any: 0 0 20 20");
        define(0, 2, "<</Kind/Tree/Kids[3 R]>>");
        define(0, 3, "<</Kind/Page/Box 7>>");
        does(x -> x.movePage(0, 0, 0));
        due("PAGE", "<</Box [0 0 20 20] /Kind /Page>>", x -> x.object(0, 3));
    }

    private void flatTree() {
        start("(If there is no such BOOK, or it is a PAGE, or the ROOT, a new OBJECT becomes it, to which \"Pages\" leads then)");
        for (String pages : new String[] {"", "/Pages 5 R", "/Pages 2", "/Pages[2 R]", "/Pages 1 R"}) {
            does(x -> x.fresh(0));
            define(0, 1, "<</Kind/Root" + pages + ">>");
            due("the PAGE behind the TREE", 4, x -> x.newPage(0, 0, 1, 1));
            due("ROOT", "<</Kind /Root /Pages 3 R>>", x -> x.object(0, 1));
            due("TREE", "<</Count 1 /Kids [4 R] /Kind /Tree>>", x -> x.object(0, 3));
        }
        does(x -> x.fresh(0));
        stream(0, 2, "x");
        due("a STREAM of Kind /Tree is no BOOK", 4, x -> x.newPage(0, 0, 1, 1));
        due("it stays", "x", x -> x.data(0, 2, false));
        does(x -> x.fresh(0));
        define(0, 2, "[1]");
        due("another VALUE", 4, x -> x.newPage(0, 0, 1, 1));
        due("it stays", "[1]", x -> x.object(0, 2));
        does(x -> x.fresh(0));
        define(0, 2, "<</Kind/Page>>");
        due("a PAGE", 4, x -> x.newPage(0, 1, 1, 1));
        due("TREE", "<</Count 2 /Kids [2 R 4 R] /Kind /Tree>>", x -> x.object(0, 3));
        does(x -> x.fresh(0));
        define(0, 1, "<</Kind/Page/Pages 1 R>>");
        due("the ROOT is a PAGE", 4, x -> x.newPage(0, 1, 1, 1));
        due("ROOT", "<</Box [0 0 20 20] /Kind /Page /Pages 3 R>>", x -> x.object(0, 1));
        due("TREE", "<</Count 2 /Kids [1 R 4 R] /Kind /Tree>>", x -> x.object(0, 3));
        goOn("the BOOK at \"Pages\" gets Kind /Tree, Kids, Count, and nothing else");
        does(x -> x.fresh(0));
        define(0, 2, "<</Kind/Form/A 1/Kids[3 R]>>");
        due("any other BOOK", 3, x -> x.newPage(0, 0, 1, 1));
        due("TREE", "<</Count 1 /Kids [3 R] /Kind /Tree>>", x -> x.object(0, 2));
        does(x -> x.fresh(0));
        define(0, 60, "<<>>");
        define(0, 1, "<</Pages 60 R>>");
        due("60", 3, x -> x.newPage(0, 0, 1, 1));
        due("TREE", "<</Count 1 /Kids [3 R] /Kind /Tree>>", x -> x.object(0, 60));
    }

    private void flatRoot() {
        start("Where the ROOT is no BOOK (also if it is a STREAM), it is REFUSED");
        for (String root : new String[] {"[2 R]", "2 R", "null", "(x)", "5"}) {
            define(0, 1, root);
            refused("newPage by " + root, x -> x.newPage(0, 0, 1, 1));
            refused("merge by " + root, x -> x.merge(0));
            refused("merge of it", x -> x.merge(1));
        }
        does(x -> x.drop(0, 1));
        refused("without a ROOT", x -> x.newPage(0, 0, 1, 1));
        define(0, 2, "<</Kind/Tree/Kids[3 R]>>");
        define(0, 3, "<</Kind/Page>>");
        define(0, 1, "<</Pages 2 R>>");
        stream(0, 1, "x");
        refused("newPage", x -> x.newPage(0, 0, 1, 1));
        refused("movePage", x -> x.movePage(0, 0, 0));
        refused("dropPage", x -> x.dropPage(0, 0));
        refused("merge", x -> x.merge(0));
        refused("merge of it", x -> x.merge(1));
        refused("split", x -> x.split(0, 0, 0));
        argument("exceptions go ahead", x -> x.newPage(0, 2, 1, 1));
        goOn("as is all that would change the BOOK of the ROOT");
        refused("title", x -> x.title(0, 0, 0, 0));
        refused("field", x -> x.field(0, 0, 1));
        goOn("what does not make it FLAT can be");
        due("turnPage", 1, x -> x.turnPage(0, 0, 1));
        due("addBox", 1, x -> x.addBox(0, 0, 0, 0, 1, 1));
    }

    private void flatRefused() {
        start("likewise if a VALUE would become too great");
        define(0, 3, "<</Kind/Page/A 1" + EIGHT + ">>");
        define(0, 2, "<</Kind/Tree/Kids[3 R]>>");
        refused("a PAGE of 11 NAMES by its Box", x -> x.movePage(0, 0, 0));
        refused("newPage", x -> x.newPage(0, 0, 1, 1));
        refused("dropPage", x -> x.dropPage(0, 0));
        refused("split", x -> x.split(0, 0, 0));
        define(0, 3, "<</Kind/Page" + EIGHT + ">>");
        due("10 NAMES by its Box", 3, x -> x.movePage(0, 0, 0));
        define(0, 2, "<</Kind/Tree/Kids[3 R]/Turn 1>>");
        refused("11 NAMES by its Turn", x -> x.movePage(0, 0, 0));
        define(0, 2, "<</Kind/Tree/Kids[3 R]/Forms<</A 1>>>>");
        refused("11 NAMES by its Forms", x -> x.movePage(0, 0, 0));
        define(0, 2, "<</Kind/Tree/Kids[3 R]/Forms<<>>/Turn 4>>");
        due("neither", 3, x -> x.movePage(0, 0, 0));
        define(0, 3, "<</Kind/Page/Turn 0/Forms<<>>" + EIGHT.substring(4) + ">>");
        due("two go, one comes", 3, x -> x.movePage(0, 0, 0));
        goOn("the ROOT of 11 NAMES by its Pages");
        define(0, 1, "<</Kind/Root/A 1" + EIGHT + ">>");
        refused("newPage", x -> x.newPage(0, 0, 1, 1));
        define(0, 1, "<</Kind/Root" + EIGHT + ">>");
        due("10 NAMES by its Pages", 5, x -> x.newPage(0, 0, 1, 1));
        goOn("if none of 1 to 60 is left for the TREE");
        does(x -> x.fresh(0));
        taken(2, 60);
        define(0, 2, "<</Kind/Page>>");
        refused("no number", x -> x.movePage(0, 0, 0));
        does(x -> x.drop(0, 60));
        due("one number", 2, x -> x.movePage(0, 0, 0));
        due("TREE", "<</Count 1 /Kids [2 R] /Kind /Tree>>", x -> x.object(0, 60));
        does(x -> x.drop(0, 59));
        define(0, 1, "<</Pages 2 R>>");
        refused("one number for two", x -> x.newPage(0, 0, 1, 1));
    }

    /** DOCUMENT 0 gets so many PAGES, from OBJECT 10 on, in two TREES. */
    private void manyPages(int many) {
        StringBuilder first = new StringBuilder();
        StringBuilder second = new StringBuilder();
        for (int k = 0; k < many; k++) {
            define(0, 10 + k, "<</Kind/Page/Parts 9 R>>");
            (k < 10 ? first : second).append(10 + k).append(" R ");
        }
        define(0, 3, "<</Kind/Tree/Kids[" + second + "]>>");
        define(0, 2, "<</Kind/Tree/Kids[" + first + " 3 R]>>");
    }

    private void flatMany() {
        start("What leaves a DOCUMENT FLAT makes it FLAT first, with all PAGES that it has: more than can be: REFUSED");
        manyPages(13);
        refused("newPage", x -> x.newPage(0, 0, 1, 1));
        refused("movePage", x -> x.movePage(0, 0, 12));
        refused("dropPage", x -> x.dropPage(0, 12));
        refused("split", x -> x.split(0, 0, 0));
        refused("merge", x -> x.merge(0));
        refused("merge of it", x -> x.merge(1));
        does(x -> x.drop(0, 22));
        due("12: movePage", 21, x -> x.movePage(0, 11, 0));
        due("12: dropPage", 11, x -> x.dropPage(0, 0));
        does(x -> x.undo());
        due("12: merge of none", 12, x -> x.merge(0));
        due("12: merge to none", 12, x -> x.merge(1));
        due("12: split", 12, x -> x.split(0, 0, 11));
    }

    private void addPart() {
        start("A new STREAM with the LINE as DATA, behind the Parts of a PAGE (\"Parts\" is a ROW then)");
        does(x -> x.newPage(0, 0, 9, 9));
        type("");
        due("empty", 4, x -> x.addPart(0, 0));
        due("PAGE", "<</Box [0 0 9 9] /Kind /Page /Parts [4 R]>>", x -> x.object(0, 3));
        due("STREAM", "<<>> data", x -> x.object(0, 4));
        type(times(200, "x"));
        due("200", 5, x -> x.addPart(0, 0));
        due("DATA", times(200, "x"), x -> x.data(0, 5, false));
        due("PAGE", "<</Box [0 0 9 9] /Kind /Page /Parts [4 R 5 R]>>", x -> x.object(0, 3));
        define(0, 3, "<</Kind/Page/Parts 60 R>>");
        due("behind a REF", 6, x -> x.addPart(0, 0));
        due("PAGE", "<</Kind /Page /Parts [60 R 6 R]>>", x -> x.object(0, 3));
        define(0, 3, "<</Kind/Page/Parts 1 R>>");
        due("behind a REF to 1", "<</Kind /Page /Parts [1 R 7 R]>>", x -> x.addPart(0, 0) == 7 ? x.object(0, 3) : "?");
        does(Pagedocument::undo);
        define(0, 3, "<</Kind/Page/Parts[]>>");
        due("an empty ROW", 7, x -> x.addPart(0, 0));
        due("PAGE", "<</Kind /Page /Parts [7 R]>>", x -> x.object(0, 3));
        define(0, 3, "<</Kind/Page/Parts(x)>>");
        due("none", 8, x -> x.addPart(0, 0));
        due("PAGE", "<</Kind /Page /Parts [8 R]>>", x -> x.object(0, 3));
    }

    private void addPartRefused() {
        start("-9 if it can not be, or the LOCK does not let it");
        does(x -> x.newPage(0, 0, 9, 9));
        type("0 0 1 1 B");
        define(0, 3, "<</Kind/Page/Parts[" + times(11, "4 R ") + "]>>");
        due("the 12th", 4, x -> x.addPart(0, 0));
        refused("the 13th by addPart", x -> x.addPart(0, 0));
        refused("the 13th by addText", x -> x.addText(0, 0, 0, 0, 1, 0));
        refused("the 13th by addBox", x -> x.addBox(0, 0, 0, 0, 1, 1));
        define(0, 3, "<</Kind/Page/A 1" + EIGHT + ">>");
        refused("11 NAMES by addPart", x -> x.addPart(0, 0));
        refused("11 NAMES by addText", x -> x.addText(0, 0, 0, 0, 1, 0));
        refused("11 NAMES by addBox", x -> x.addBox(0, 0, 0, 0, 1, 1));
        define(0, 3, "<</Kind/Page" + EIGHT + ">>");
        due("10 NAMES", 5, x -> x.addPart(0, 0));
        taken(6, 60);
        refused("no number by addPart", x -> x.addPart(0, 0));
        refused("no number by addText", x -> x.addText(0, 0, 0, 0, 1, 0));
        refused("no number by addBox", x -> x.addBox(0, 0, 0, 0, 1, 1));
        does(x -> x.drop(0, 60));
        due("the last number", 60, x -> x.addPart(0, 0));
        start("the LOCK does not let it");
        does(x -> x.newPage(0, 0, 9, 9));
        closed(5);
        refused("addPart", x -> x.addPart(0, 0));
        refused("addText", x -> x.addText(0, 0, 0, 0, 1, 0));
        refused("addBox", x -> x.addBox(0, 0, 0, 0, 1, 1));
        argument("exceptions go ahead", x -> x.addText(0, 0, 0, 0, 0, 0));
        argument("exceptions go ahead", x -> x.addBox(0, 0, 0, 0, 0, 1));
        closed(2);
        due("addPart", 4, x -> x.addPart(0, 0));
        due("addText", 1, x -> x.addText(0, 0, 0, 0, 1, 0));
        due("addBox", 2, x -> x.addBox(0, 0, 0, 0, 1, 1));
    }

    private void addText() {
        start("As addPart(), with \"size Z x y P (word) T\"; returns how many MARKS there are then");
        does(x -> x.newPage(0, 0, 40, 40));
        int[][] so = {{-99, 99, 1, 0}, {99, -99, 9, 999}, {0, 0, 9, 998}, {-99, -99, 1, 1}, {99, 99, 2, 4}};
        String[] data = {"1 Z -99 99 P (a) T", "9 Z 99 -99 P (ddcbd) T", "9 Z 0 0 P (ddcbc) T", "1 Z -99 -99 P (b) T",
            "2 Z 99 99 P (ba) T"};
        int[] marks = {0, 0, 3, 3, 3};
        for (int k = 0; k < so.length; k++) {
            int[] each = so[k];
            int object = 4 + k;
            due("MARKS", marks[k], x -> x.addText(0, 0, each[0], each[1], each[2], each[3]));
            due("DATA", data[k], x -> x.data(0, object, false));
        }
        due("STREAM", "<<>> data", x -> x.object(0, 4));
        goOn("IllegalArgumentException if x or y is not -99 to 99, size not 1 to 9, or word not 0 to 999");
        int[][] wrong = {{-100, 0, 1, 0}, {100, 0, 1, 0}, {0, -100, 1, 0}, {0, 100, 1, 0}, {0, 0, 0, 0}, {0, 0, 10, 0},
            {0, 0, -1, 0}, {0, 0, 1, -1}, {0, 0, 1, 1000}, {Integer.MAX_VALUE, 0, 1, 0}, {0, 0, 1, Integer.MIN_VALUE}};
        for (int[] each : wrong) {
            argument("no such text", x -> x.addText(0, 0, each[0], each[1], each[2], each[3]));
        }
    }

    private void addBox() {
        start("As addPart(), with \"x y w h B\"; returns how many MARKS there are then");
        does(x -> x.newPage(0, 0, 40, 40));
        int[][] so = {{-99, 99, 1, 99}, {99, -99, 99, 1}, {0, 0, 99, 99}, {-98, -98, 99, 99}, {-99, -99, 99, 99}};
        int[] marks = {0, 0, 1, 2, 2};
        for (int k = 0; k < so.length; k++) {
            int[] each = so[k];
            int object = 4 + k;
            due("MARKS", marks[k], x -> x.addBox(0, 0, each[0], each[1], each[2], each[3]));
            due("DATA", each[0] + " " + each[1] + " " + each[2] + " " + each[3] + " B", x -> x.data(0, object, false));
        }
        goOn("IllegalArgumentException if x or y is not -99 to 99, or w or h not 1 to 99");
        int[][] wrong = {{-100, 0, 1, 1}, {100, 0, 1, 1}, {0, -100, 1, 1}, {0, 100, 1, 1}, {0, 0, 0, 1}, {0, 0, 100, 1},
            {0, 0, 1, 0}, {0, 0, 1, 100}, {0, 0, -1, 1}, {0, 0, 1, -1}, {0, Integer.MIN_VALUE, 1, 1}};
        for (int[] each : wrong) {
            argument("no such box", x -> x.addBox(0, 0, each[0], each[1], each[2], each[3]));
            argument("nor to be BLACK", x -> x.black(0, 0, each[0], each[1], each[2], each[3]));
        }
    }

    private void form() {
        start("in \"Forms\" in the PAGE itself (with all that it has) a REF to it by a NAME of one letter");
        does(x -> x.newPage(0, 0, 9, 9));
        type("0 0 1 1 B");
        due("A", 4, x -> x.form(0, 0, 0));
        due("STREAM", "<</Kind /Form>> data", x -> x.object(0, 4));
        due("DATA", "0 0 1 1 B", x -> x.data(0, 4, false));
        due("Z", 5, x -> x.form(0, 0, 25));
        due("PAGE", "<</Box [0 0 9 9] /Forms <</A 4 R /Z 5 R>> /Kind /Page>>", x -> x.object(0, 3));
        due("A again", 6, x -> x.form(0, 0, 0));
        due("in its place", "<</Box [0 0 9 9] /Forms <</A 6 R /Z 5 R>> /Kind /Page>>", x -> x.object(0, 3));
        define(0, 2, "<</Kind/Tree/Kids[3 R]/Forms<</B 9/Q 10 R>>>>");
        define(0, 3, "<</Kind/Page>>");
        type("");
        due("with all that it has", 7, x -> x.form(0, 0, 1));
        due("PAGE", "<</Forms <</B 7 R /Q 10 R>> /Kind /Page>>", x -> x.object(0, 3));
        due("the TREE stays", "<</Forms <</B 9 /Q 10 R>> /Kids [3 R] /Kind /Tree>>", x -> x.object(0, 2));
        define(0, 3, "<</Kind/Page/Forms 5>>");
        due("none of its own", 8, x -> x.form(0, 0, 2));
        due("PAGE", "<</Forms <</B 9 /C 8 R /Q 10 R>> /Kind /Page>>", x -> x.object(0, 3));
        goOn("IllegalArgumentException if letter is not 0 to 25");
        for (int letter : new int[] {-1, 26, Integer.MAX_VALUE, Integer.MIN_VALUE}) {
            argument("letter " + letter, x -> x.form(0, 0, letter));
        }
    }

    private void formRefused() {
        start("-9 if it can not be, or the LOCK does not let it");
        does(x -> x.newPage(0, 0, 9, 9));
        define(0, 3, "<</Kind/Page/Forms<</A 1/AA 1" + EIGHT.substring(4) + ">>>>");
        due("the 10th", 4, x -> x.form(0, 0, 25));
        refused("the 11th", x -> x.form(0, 0, 24));
        due("one of the 10", 5, x -> x.form(0, 0, 0));
        define(0, 3, "<</Kind/Page/A 1" + EIGHT + ">>");
        refused("11 NAMES", x -> x.form(0, 0, 0));
        define(0, 3, "<</Kind/Page" + EIGHT + ">>");
        due("10 NAMES", 6, x -> x.form(0, 0, 0));
        define(0, 3, "<</Kind/Page/Forms 1" + EIGHT + ">>");
        due("10 NAMES with Forms", 7, x -> x.form(0, 0, 0));
        taken(8, 59);
        due("the last number", 60, x -> x.form(0, 0, 1));
        refused("no number", x -> x.form(0, 0, 1));
        start("the LOCK does not let it");
        does(x -> x.newPage(0, 0, 9, 9));
        closed(5);
        refused("form", x -> x.form(0, 0, 0));
        argument("exceptions go ahead", x -> x.form(0, 0, 26));
        closed(2);
        due("the LOCK lets it", 4, x -> x.form(0, 0, 0));
    }

    private void page(String content) {
        define(0, 3, "<</Kind/Page/Box[0 0 20 20]/Parts 30 R/Forms<</A 31 R>>>>");
        stream(0, 30, content);
    }

    private void black() {
        start("BLACK: MARKS that have some in common with it go; the CONTENT becomes a new STREAM, the only one of \"Parts\"");
        does(x -> x.newPage(0, 0, 20, 20));
        page("1 1 2 2 B 2 Z 5 5 P (a\\(\\\\) T");
        due("one", 1, x -> x.black(0, 0, 1, 1, 1, 1));
        due("a CHANGE", 4, x -> x.house(2));
        due("PAGE", "<</Box [0 0 20 20] /Forms <<>> /Kind /Page /Parts [4 R]>>", x -> x.object(0, 3));
        due("STREAM", "<<>> data", x -> x.object(0, 4));
        due("(c) (as a STRING is WRITTEN; z its height)", "2 Z 5 5 P (a) T\n2 Z 9 5 P (\\() T\n2 Z 13 5 P (\\\\) T",
                x -> x.data(0, 4, false));
        due("MARKS", "L a 5 5 4 2|L ( 9 5 4 2|L \\ 13 5 6 2", x -> marks(x, 0, 0));
        due("those that held it stay as OBJECTS", true, x -> x.object(0, 30).equals("<<>> data"));
        due("come to no more", false, x -> x.isReached(0, 30));
        due("all", 3, x -> x.black(0, 0, 0, 0, 99, 99));
        due("nothing is left", "", x -> x.data(0, 5, false));
        due("a new one", "<</Box [0 0 20 20] /Forms <<>> /Kind /Page /Parts [5 R]>>", x -> x.object(0, 3));
        goOn("If there are some");
        due("none", 0, x -> x.black(0, 0, 0, 0, 99, 99));
        due("nothing new", 0, x -> x.ofPage(0, 0, 6));
        due("no new STREAM", "", x -> x.object(0, 6));
        page("1 1 2 2 B w");
        due("none met", 0, x -> x.black(0, 0, 5, 5, 1, 1));
        due("the CONTENT stays", "1 1 2 2 B w", x -> x.content(0, 0));
        due("the PAGE, too", "<</Box [0 0 20 20] /Forms <</A 31 R>> /Kind /Page /Parts 30 R>>", x -> x.object(0, 3));
        due("a CHANGE as well", 4, x -> x.house(2));
        due("it can be undone alone", 3, Pagedocument::undo);
        due("nothing else", "1 1 2 2 B w", x -> x.content(0, 0));
        goOn("of a B \"x y w h B\"");
        page("1 2 3 4 B 0 0 1 1 B 10 11 5 6 B");
        due("the second", 1, x -> x.black(0, 0, 0, 0, 1, 1));
        due("those left", "1 2 3 4 B\n10 11 5 6 B", x -> x.content(0, 0));
        start("\"Forms\" of the PAGE itself becomes an empty BOOK, also where it has none itself");
        define(0, 31, "<</Kind/Form>>");
        stream(0, 31, "0 0 1 1 B");
        define(0, 2, "<</Kind/Tree/Kids[3 R]/Forms<</A 31 R>>>>");
        define(0, 3, "<</Kind/Page/Parts[30 R]>>");
        stream(0, 30, "/A X 5 5 1 1 B");
        due("of a FORM", 1, x -> x.black(0, 0, 0, 0, 2, 2));
        due("PAGE", "<</Forms <<>> /Kind /Page /Parts [4 R]>>", x -> x.object(0, 3));
        due("what is left", "5 5 1 1 B", x -> x.content(0, 0));
    }

    private void blackEdges() {
        start("MARKS that have some in common with it");
        does(x -> x.newPage(0, 0, 20, 20));
        page("5 5 3 2 B");
        int[][] beside = {{4, 5, 1, 2}, {8, 5, 1, 2}, {5, 4, 3, 1}, {5, 7, 3, 1}, {4, 4, 1, 1}, {8, 7, 9, 9}, {-99, -99, 99, 99}};
        for (int[] each : beside) {
            due("beside it", 0, x -> x.black(0, 0, each[0], each[1], each[2], each[3]));
        }
        int[][] over = {{4, 5, 2, 1}, {7, 5, 1, 1}, {5, 4, 1, 2}, {5, 6, 1, 1}, {7, 6, 9, 9}, {-93, -93, 99, 99}, {6, 5, 1, 1}};
        for (int[] each : over) {
            due("over it", 1, x -> x.black(0, 0, each[0], each[1], each[2], each[3]));
            does(x -> x.undo());
        }
        goOn("the whole CELL, not what is in the CLIP alone");
        page("9 9 1 1 C 9 Z 5 5 P (b) T");
        due("of the CELL", 1, x -> x.black(0, 0, 5, 5, 1, 1));
        due("what goes", "", x -> x.content(0, 0));
        page("6 6 1 1 C 5 5 9 9 B");
        due("a B is cut", 0, x -> x.black(0, 0, 5, 5, 1, 1));
    }

    private void blackMarks() {
        start("MARKS behind the 24th one go, too");
        does(x -> x.newPage(0, 0, 20, 20));
        page(times(12, "0 0 1 1 B "));
        define(0, 3, "<</Kind/Page/Parts[30 R 30 R 29 R]>>");
        stream(0, 29, "5 5 1 1 B 6 6 1 1 B");
        due("none of the 24", 0, x -> x.black(0, 0, 5, 5, 9, 9));
        page(times(11, "0 0 1 1 B "));
        define(0, 3, "<</Kind/Page/Parts[30 R 30 R 29 R 29 R]>>");
        due("the 23rd", 1, x -> x.black(0, 0, 5, 5, 1, 1));
        due("those behind the 24th went", times(22, "0 0 1 1 B\n") + "6 6 1 1 B", x -> x.content(0, 0));
        page(times(12, "0 0 1 1 B "));
        define(0, 3, "<</Kind/Page/Parts[30 R 30 R 30 R]>>");
        due("all 24", 24, x -> x.black(0, 0, 0, 0, 1, 1));
    }

    private void blackRefused() {
        start("-9 if it can not be, or the LOCK does not let it");
        does(x -> x.newPage(0, 0, 20, 20));
        type("0 0 1 1 B");
        does(x -> x.addPart(0, 0));
        define(0, 3, "<</Kind/Page/Parts[4 R]" + EIGHT + ">>");
        refused("11 NAMES by Forms", x -> x.black(0, 0, 0, 0, 1, 1));
        due("nothing is met", 0, x -> x.black(0, 0, 5, 5, 1, 1));
        define(0, 3, "<</Kind/Page/Parts[4 R]" + EIGHT.substring(4) + ">>");
        due("10 NAMES", 1, x -> x.black(0, 0, 0, 0, 1, 1));
        define(0, 3, "<</Kind/Page/Parts[4 R]>>");
        taken(6, 60);
        refused("no number", x -> x.black(0, 0, 0, 0, 1, 1));
        due("nothing is met, no number", 0, x -> x.black(0, 0, 5, 5, 1, 1));
        does(x -> x.drop(0, 60));
        due("the last number", 1, x -> x.black(0, 0, 0, 0, 1, 1));
        due("PAGE", "<</Forms <<>> /Kind /Page /Parts [60 R]>>", x -> x.object(0, 3));
        start("the LOCK does not let it");
        does(x -> x.newPage(0, 0, 9, 9));
        closed(5);
        refused("nothing is there", x -> x.black(0, 0, 0, 0, 1, 1));
        argument("exceptions go ahead", x -> x.black(0, 0, 0, 0, 0, 1));
        closed(2);
        due("the LOCK lets it", 0, x -> x.black(0, 0, 0, 0, 1, 1));
    }

    private void blackLengths() {
        start("likewise if DATA would become too great");
        leaves(500);
        due("DATA of 500", 1, x -> x.black(0, 0, -55, -55, 1, 1));
        due("so long", 500, x -> x.content(0, 0).length());
        leaves(501);
        refused("DATA of 501", x -> x.black(0, 0, -55, -55, 1, 1));
    }

    /** A PAGE of 24 MARKS, of which a rectangle at -55 meets the last one alone; the others WRITTEN are so long. */
    private void leaves(int length) {
        String[] parts = {"", "", ""};
        int more = length - 23 * 20 + 1;
        for (int k = 0; k < 23; k++) {
            int by = Math.min(more, 3);
            String size = by >= 2 ? "100" : "1";
            parts[k / 8] += size + " Z -50 -50 P (" + (by % 2 == 1 ? "\\(" : "a") + ") T\n";
            more -= by;
        }
        repaired(body(1, "<</Pages 3 R>>") + body(3, "<</Kind/Page/Box[-50 -50 40 40]/Parts[4 R 5 R 6 R 7 R]>>")
                + body(4, "", parts[0]) + body(5, "", parts[1]) + body(6, "", parts[2])
                + body(7, "", "6 Z -55 -55 P (a) T") + "<</Root 1 R>>\n");
        due("MARKS", 24, x -> x.ofPage(0, 0, 6));
    }

    private void merge() {
        start("MERGE: its PAGES come to Kids behind those of a; returns how many PAGES it has then");
        due("none to none", 0, x -> x.merge(0));
        due("a CHANGE as well", 1, x -> x.house(2));
        does(x -> x.newPage(0, 0, 1, 1));
        does(x -> x.newPage(1, 0, 2, 2));
        does(x -> x.newPage(1, 0, 3, 3));
        due("two behind one", 3, x -> x.merge(0));
        due("TREE", "<</Count 3 /Kids [3 R 5 R 4 R] /Kind /Tree>>", x -> x.object(0, 2));
        due("by rising numbers", "<</Box [0 0 2 2] /Kind /Page>>", x -> x.object(0, 4));
        due("the other one stays", "<</Count 2 /Kids [4 R 3 R] /Kind /Tree>>", x -> x.object(1, 2));
        due("the other way round", 5, x -> x.merge(1));
        goOn("both are made FLAT (b as a copy)");
        does(x -> x.fresh(0));
        does(x -> x.fresh(1));
        define(0, 2, "<</Kind/Tree/Kids[3 R]/Turn 1>>");
        define(0, 3, "<</Kind/Page>>");
        define(1, 2, "<</Kind/Tree/Kids[3 R]/Turn 2>>");
        define(1, 3, "<</Kind/Page>>");
        due("two", 2, x -> x.merge(0));
        due("a", "<</Box [0 0 20 20] /Kind /Page /Turn 1>>", x -> x.object(0, 3));
        due("of b", "<</Box [0 0 20 20] /Kind /Page /Turn 2>>", x -> x.object(0, 4));
        due("b stays", "<</Kind /Page>>", x -> x.object(1, 3));
        due("its TREE, too", "<</Kids [3 R] /Kind /Tree /Turn 2>>", x -> x.object(1, 2));
        goOn("a is made FLAT also if b has none");
        does(x -> x.fresh(1));
        define(0, 2, "<</Kind/Tree/Kids[3 R]/Turn 1>>");
        due("one", 1, x -> x.merge(0));
        due("TREE", "<</Count 1 /Kids [3 R] /Kind /Tree>>", x -> x.object(0, 2));
    }

    private void mergeNumbers() {
        start("each OBJECT of b that can be come to from its PAGES gets a new number in a, by rising numbers, the smallest free one");
        define(0, 4, "(a4)");
        define(0, 6, "(a6)");
        does(x -> x.newPage(1, 0, 1, 1));
        define(1, 3, "<</Kind/Page/A 60 R/B 10 R>>");
        define(1, 60, "(b60)");
        define(1, 10, "11 R");
        define(1, 11, "<</Up 1 R>>");
        define(1, 12, "(not come to)");
        due("one", 1, x -> x.merge(0));
        String[] due = {"<</Kind /Root /Pages 2 R>>", "<</Count 1 /Kids [7 R] /Kind /Tree>>", "<</Kind /Root /Pages 5 R>>",
            "(a4)", "<</Count 1 /Kids [7 R] /Kind /Tree>>", "(a6)", "<</A 10 R /B 8 R /Box [0 0 20 20] /Kind /Page>>",
            "9 R", "<</Up 3 R>>", "(b60)", ""};
        for (int n = 1; n <= due.length; n++) {
            int object = n;
            due("OBJECT " + n, due[n - 1], x -> x.object(0, object));
        }
        goOn("a STREAM with its BOOK and DATA");
        does(x -> x.fresh(0));
        stream(1, 60, "60 R");
        does(x -> x.filter(1, 60, 0, -1, -1));
        define(1, 3, "<</Kind/Page/A 60 R>>");
        does(x -> x.merge(0));
        due("BOOK", "<</Filter [/Hex]>> data", x -> x.object(0, 4));
        due("DATA", "36302052>", x -> x.data(0, 4, false));
    }

    private void mergeRefs() {
        start("REFS in it become those (one to what is not there: null, and in a BOOK that NAME goes)");
        does(x -> x.newPage(1, 0, 1, 1));
        define(1, 9, "(x)");
        define(1, 3, "<</Kind/Page/A 9 R/B 8 R/C[8 R 9 R(9 R)9]/D<</E 8 R>>/F[<</H 8 R/I[9 R]>>]/J[8 R[8 R]]>>");
        does(x -> x.merge(0));
        due("PAGE", "<</A 4 R /Box [0 0 20 20] /C [null 4 R (9 R) 9] /D <<>> /F [<</I [4 R]>>] /J [null [null]] /Kind /Page>>",
                x -> x.object(0, 3));
        define(1, 9, "8 R");
        does(x -> x.fresh(0));
        define(1, 3, "<</Kind/Page/A 9 R/B 60 R>>");
        does(x -> x.merge(0));
        due("an OBJECT that is such a REF", "null", x -> x.object(0, 4));
        due("a REF to that stays", "<</A 4 R /Box [0 0 20 20] /Kind /Page>>", x -> x.object(0, 3));
        define(1, 9, "<</A 8 R/B 1>>");
        stream(1, 9, "8 R");
        does(x -> x.fresh(0));
        does(x -> x.merge(0));
        due("of a STREAM", "<</B 1>> data", x -> x.object(0, 4));
        due("DATA stay", "8 R", x -> x.data(0, 4, false));
        define(1, 9, "[[[[[8 R 9 R]]]]]");
        does(x -> x.fresh(0));
        does(x -> x.merge(0));
        due("five deep", "[[[[[null 4 R]]]]]", x -> x.object(0, 4));
        define(1, 9, "[" + times(12, "9 R ") + "]");
        does(x -> x.fresh(0));
        does(x -> x.merge(0));
        due("12 in a ROW", "[" + times(11, "4 R ") + "4 R]", x -> x.object(0, 4));
        define(1, 9, "<</A 9 R" + EIGHT + "/J 9 R>>");
        does(x -> x.fresh(0));
        does(x -> x.merge(0));
        due("10 in a BOOK", "<</A 4 R /B 1 /C 1 /D 1 /E 1 /F 1 /G 1 /H 1 /I 1 /J 4 R>>", x -> x.object(0, 4));
    }

    private void mergeRefused() {
        start("-9 if it can not be, or the LOCK does not let it");
        for (int k = 0; k < 6; k++) {
            does(x -> x.newPage(0, 0, 1, 1));
            does(x -> x.newPage(1, 0, 1, 1));
        }
        due("12", 12, x -> x.merge(0));
        refused("18", x -> x.merge(0));
        refused("18 the other way round", x -> x.merge(1));
        does(x -> x.dropPage(1, 0));
        does(x -> x.dropPage(1, 0));
        does(x -> x.dropPage(1, 0));
        does(x -> x.dropPage(1, 0));
        does(x -> x.dropPage(1, 0));
        refused("13", x -> x.merge(0));
        does(x -> x.dropPage(0, 0));
        due("11 and 1", 12, x -> x.merge(0));
        start("if none of 1 to 60 is left");
        does(x -> x.newPage(1, 0, 1, 1));
        define(1, 3, "<</Kind/Page/A 4 R>>");
        define(1, 4, "1");
        taken(3, 58);
        due("two numbers for two", 1, x -> x.merge(0));
        refused("none", x -> x.merge(0));
        does(x -> x.drop(0, 59));
        refused("one number for two", x -> x.merge(0));
        start("11 NAMES by Box, of the one or the other");
        define(1, 3, "<</Kind/Page/A 1" + EIGHT + ">>");
        define(1, 2, "<</Kind/Tree/Kids[3 R]>>");
        refused("of b", x -> x.merge(0));
        refused("of a", x -> x.merge(1));
        start("the LOCK does not let it");
        does(x -> x.newPage(1, 0, 1, 1));
        closed(6);
        refused("of a", x -> x.merge(0));
        due("of b it does not matter", 1, x -> x.merge(1));
        closed(1);
        due("the LOCK lets it", 1, x -> x.merge(0));
    }

    private void split() {
        start("SPLIT: PAGES from to to (both with them) of a make a NEW DOCUMENT b; returns how many PAGES that has");
        for (int k = 0; k < 4; k++) {
            int at = k;
            does(x -> x.newPage(0, at, at + 1, 1));
        }
        define(1, 60, "(old)");
        does(x -> x.write(1, 0, false));
        does(x -> x.lock(1, 5, 0));
        due("the middle", 2, x -> x.split(0, 1, 2));
        due("a CHANGE", 4, x -> x.house(2));
        due("TREE", "<</Count 2 /Kids [3 R 4 R] /Kind /Tree>>", x -> x.object(1, 2));
        due("PAGE", "<</Box [0 0 2 1] /Kind /Page>>", x -> x.object(1, 3));
        due("PAGE", "<</Box [0 0 3 1] /Kind /Page>>", x -> x.object(1, 4));
        due("NEW", "", x -> x.object(1, 60));
        due("no LOCK", 0, x -> x.ofDoc(1, 6));
        due("no HOME", -1, x -> x.ofDoc(1, 8));
        due("ROOT", "<</Kind /Root /Pages 2 R>>", x -> x.object(1, 1));
        due("this stays", 4, x -> x.ofDoc(0, 2));
        due("all", 4, x -> x.split(0, 0, 3));
        due("the first", 1, x -> x.split(0, 0, 0));
        due("the last", 1, x -> x.split(0, 3, 3));
        due("PAGE", "<</Box [0 0 4 1] /Kind /Page>>", x -> x.object(1, 3));
        due("back", 1, x -> x.split(1, 0, 0));
        due("this one is NEW then", 3, x -> x.ofDoc(0, 0));
        due("undone", 3, Pagedocument::undo);
        due("as it was", 4, x -> x.ofDoc(0, 2));
        goOn("IllegalArgumentException if to is less than from");
        argument("by one", x -> x.split(0, 1, 0));
        argument("the last and the first", x -> x.split(0, 3, 0));
        goOn("IndexOutOfBoundsException if there is no such PAGE (from, to)");
        index("from", x -> x.split(0, -1, 0));
        index("from, and to is less", x -> x.split(0, 4, 0));
        index("to", x -> x.split(0, 0, 4));
        index("to is less, and none", x -> x.split(0, 0, -1));
        index("of none", x -> x.split(1, 1, 1));
    }

    private void splitCopies() {
        start("by MERGE of a copy of a that has just these (the copy is made FLAT first, with all PAGES that a has)");
        define(0, 2, "<</Kind/Tree/Kids[3 R 4 R 5 R]/Turn 1>>");
        define(0, 3, "<</Kind/Page>>");
        define(0, 4, "<</Kind/Page/Up 2 R/Next 5 R/S 60 R/Not 9 R>>");
        define(0, 5, "<</Kind/Page>>");
        stream(0, 60, "x");
        due("one", 1, x -> x.split(0, 1, 1));
        due("PAGE", "<</Box [0 0 20 20] /Kind /Page /Next 5 R /S 6 R /Turn 1 /Up 3 R>>", x -> x.object(1, 4));
        due("the TREE of the copy", "<</Count 1 /Kids [4 R] /Kind /Tree>>", x -> x.object(1, 3));
        due("a PAGE that it leads to", "<</Box [0 0 20 20] /Kind /Page /Turn 1>>", x -> x.object(1, 5));
        due("a STREAM", "x", x -> x.data(1, 6, false));
        due("PAGES", 1, x -> x.ofDoc(1, 2));
        due("a stays as it is", "<</Kids [3 R 4 R 5 R] /Kind /Tree /Turn 1>>", x -> x.object(0, 2));
        due("its PAGES, too", "<</Kind /Page>>", x -> x.object(0, 3));
    }

    private void splitRefused() {
        start("split is always let; -9 if it can not be");
        does(x -> x.newPage(0, 0, 1, 1));
        closed(0);
        due("a LOCK", 1, x -> x.split(0, 0, 0));
        does(x -> x.open(0, 5));
        does(x -> x.lock(0, -1, 0));
        define(0, 3, "<</Kind/Page/A 1" + EIGHT + ">>");
        refused("11 NAMES by Box", x -> x.split(0, 0, 0));
        start("a copy that needs more numbers than are left");
        StringBuilder all = new StringBuilder();
        for (int k = 0; k < 5; k++) {
            StringBuilder row = new StringBuilder();
            for (int n = 4 + 12 * k; n < 16 + 12 * k && n <= 60; n++) {
                row.append(n).append(" R ");
            }
            all.append("/").append((char) ('P' + k)).append("[").append(row).append("]");
        }
        repaired(body(1, "<</Pages 2 R>>") + body(2, "<</Kind/Tree/Kids[3 R]>>") + body(3, "<</Kind/Page" + all + ">>")
                + bodies(4, 60) + "<</Root 1 R>>\n");
        due("58 for 58", 1, x -> x.split(0, 0, 0));
        due("60 OBJECTS", 60, x -> x.ofDoc(1, 0));
        back();
        repaired(body(1, "<</Pages 2 R>>") + body(2, "<</Kind/Tree/Kids[3 R]>>") + body(3, "<</Kind/Page/Up 2 R" + all + ">>")
                + bodies(4, 60) + "<</Root 1 R>>\n");
        refused("59 for 58", x -> x.split(0, 0, 0));
    }

    private static String bodies(int from, int to) {
        StringBuilder text = new StringBuilder();
        for (int n = from; n <= to; n++) {
            text.append(body(n, "" + n));
        }
        return text.toString();
    }
}
