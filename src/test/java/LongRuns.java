/** Long runs with much in them: nothing of what is kept may be lost or mixed up by what comes and goes. */
public final class LongRuns extends Trial {
    public static void main(String[] args) {
        LongRuns runs = new LongRuns();
        runs.manyTexts();
        runs.largeDocuments();
        runs.manyObjects();
        runs.allCalls();
        runs.end();
    }

    private void manyTexts() {
        start("HOME, with the text that it had then, and the OBJECTS as they were then; the last 4 CHANGES");
        define(0, 3, "(three)");
        define(0, 1, "<</Pages 2 R/A 3 R>>");
        stream(1, 3, "home of the other one");
        define(1, 1, "<</Pages 2 R/A 3 R>>");
        does(x -> x.write(0, 0, false));
        does(x -> x.write(1, 1, true));
        define(0, 3, "(other)");
        type(times(50, "abcd"));
        for (int k = 0; k < 90; k++) {
            int object = 10 + k % 40;
            does(x -> x.stream(1, object));
            does(x -> x.filter(1, object, 0, -1, -1));
        }
        define(0, 3, "(three)");
        due("as it was", 0, x -> x.update(0));
        due("the other one", 0, x -> x.update(1));
        due("a VALUE", "(three)", x -> x.object(0, 3));
        due("DATA", "home of the other one", x -> x.data(1, 3, false));
        String hex = times(50, "61626364") + ">";
        for (int n = 10; n < 50; n++) {
            int object = n;
            due("DATA of " + n, hex, x -> x.data(1, object, false));
            due("TEXT of " + n, times(50, "abcd"), x -> x.data(1, object, true));
        }
        due("other again", 3, Pagedocument::undo);
        due("a VALUE", "(other)", x -> x.object(0, 3));
        due("undone", 2, Pagedocument::undo);
        due("not filtered", times(50, "abcd"), x -> x.data(1, 19, false));
        does(Pagedocument::undo);
        due("as it was filtered ahead of that", hex, x -> x.data(1, 19, false));
        define(0, 3, "(four)");
        due("other then", true, x -> x.update(0) > 0);
        due("READ again", 3, x -> x.read(0, 1));
        due("its VALUE", "(four)", x -> x.object(1, 3));
        does(Pagedocument::undo);
        due("that HOME is there again", 0, x -> x.update(1));
    }

    /** OBJECTS 10 to 57 of DOCUMENT 0 become STREAMS of 401 SIGNS, all of one PAGE. */
    private void large() {
        type(times(50, "abcd"));
        for (int n = 10; n <= 57; n++) {
            int object = n;
            does(x -> x.stream(0, object));
            does(x -> x.filter(0, object, 0, -1, -1));
        }
        for (int part = 0; part < 2; part++) {
            StringBuilder book = new StringBuilder("<<");
            for (int row = 0; row < 2; row++) {
                book.append('/').append((char) ('A' + row)).append('[');
                for (int k = 0; k < 12; k++) {
                    book.append(10 + part * 24 + row * 12 + k).append(" R ");
                }
                book.append(']');
            }
            define(0, 4 + part, book + ">>");
        }
        define(0, 3, "<</Kind/Page/P 4 R/Q 5 R>>");
        define(0, 2, "<</Kind/Tree/Kids[3 R]>>");
    }

    private void largeDocuments() {
        start("each OBJECT gets a new number; this stays; what is taken back");
        large();
        String hex = times(50, "61626364") + ">";
        for (int k = 0; k < 12; k++) {
            due("one PAGE", 1, x -> x.split(0, 0, 0));
            due("and back", 1, x -> x.split(1, 0, 0));
        }
        for (int doc = 0; doc < 2; doc++) {
            int one = doc;
            due("OBJECTS", 53, x -> x.ofDoc(one, 0));
            for (int n = 6; n <= 53; n++) {
                int object = n;
                due("DATA of " + n, hex, x -> x.data(one, object, false));
            }
        }
        due("PAGE", "<</Box [0 0 20 20] /Kind /Page /P 4 R /Q 5 R>>", x -> x.object(0, 3));
        for (int left = 3; left >= 0; left--) {
            int many = left;
            due("undone", many, Pagedocument::undo);
            due("the last", hex, x -> x.data(many % 2, 53, false));
            due("the first", hex, x -> x.data(1 - many % 2, 6, false));
        }
        due("sound", true, Pagedocument::isSound);
    }

    /** BODIES of 60 OBJECTS, each with a REF to the next one. */
    private static String chain() {
        StringBuilder bodies = new StringBuilder(body(1, "<</Kind/Root/A 2 R>>"));
        for (int n = 2; n <= 60; n++) {
            bodies.append(body(n, link(n)));
        }
        return bodies.toString();
    }

    private static String link(int n) {
        return n < 60 ? "[" + (n + 1) + " R (c" + n + ")]" : "[(c60)]";
    }

    /** Looks whether a DOCUMENT has the OBJECTS of the chain; OBJECT 2 may be another one. */
    private void isChain(int doc, String second) {
        due("OBJECT 2", second, x -> x.object(doc, 2));
        for (int n = 3; n <= 60; n += 8) {
            int object = n;
            due("OBJECT " + n, link(n), x -> x.object(doc, object));
        }
    }

    private void manyObjects() {
        for (int more = 0; more < 10; more++) {
            changesOf(more % 2, more / 2);
        }
        homesOfMany();
    }

    /** A CHANGE that is kept alone by one of the last 4 may not be lost, whichever place it is kept at. */
    private void changesOf(int doc, int more) {
        String second = "[3 R (another one, somewhat longer)]";
        start("60 OBJECTS each, and the last 4 CHANGES of " + doc + ", behind " + more + " others");
        file(0, chain());
        does(x -> x.copyFile(2, 0));
        type(body(2, second));
        does(x -> x.put(2, x.size(2)));
        does(x -> x.repair(2, 1 - doc));
        for (int k = 0; k <= more; k++) {
            does(x -> x.repair(0, doc));
        }
        does(x -> x.write(doc, 1, false));
        for (int k = 0; k < 2; k++) {
            due("REPAIRED", 60, x -> x.repair(2, doc));
            due("the other FILE", 60, x -> x.repair(0, doc));
        }
        for (int k = 0; k < 40; k++) {
            due("FAULT", 0, x -> x.faultOf(1));
        }
        isChain(doc, link(2));
        for (int left = 3; left >= 0; left--) {
            int many = left;
            due("undone", many, Pagedocument::undo);
            isChain(doc, many % 2 == 1 ? second : link(2));
            isChain(1 - doc, second);
        }
    }

    private void homesOfMany() {
        start("60 OBJECTS each, HOME and the last 4 CHANGES of both");
        file(0, chain());
        does(x -> x.repair(0, 0));
        does(x -> x.write(0, 1, false));
        refused("a copy of the other one", x -> x.merge(1));
        refused("no numbers are left for PACKS", x -> x.write(0, 2, true));
        for (int k = 0; k < 5; k++) {
            due("READ", 60, x -> x.read(1, 0));
            due("READ", 60, x -> x.read(1, 1));
        }
        for (int k = 0; k < 60; k++) {
            due("FAULT", 0, x -> x.faultOf(1));
        }
        due("as it was READ", 0, x -> x.update(0));
        due("the other one", 0, x -> x.update(1));
        isChain(0, link(2));
        isChain(1, link(2));
        for (int left = 3; left >= 0; left--) {
            int many = left;
            due("undone", many, Pagedocument::undo);
            due("as it was READ", 0, x -> x.update(0));
            due("the other one", 0, x -> x.update(1));
            isChain(0, link(2));
            isChain(1, link(2));
        }
        due("sound", true, Pagedocument::isSound);
    }

    private void allCalls() {
        start("An object is used for at most 512 calls");
        for (int k = 0; k < 126; k++) {
            int page = k % 12;
            boolean isNew = page % 6 == 0;
            does(x -> page == 0 ? x.fresh(0) : x.newPage(0, page - 1, 40, 40));
            does(x -> x.write(0, page % 4, page % 2 == 0));
            does(x -> isNew ? x.fresh(1) : x.house(0));
            does(x -> isNew ? x.merge(1) : x.house(0));
        }
        due("PAGES", 5, x -> x.ofDoc(0, 2));
        due("PAGES of the other one", 0, x -> x.ofDoc(1, 2));
        due("undone", 3, Pagedocument::undo);
        due("the 508th call", 4, x -> x.ofDoc(0, 2));
    }
}
