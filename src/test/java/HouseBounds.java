/** The boundaries of promises 54 to 60: what can be taken back, what is told of all, whether it is sound, the checksum. */
public final class HouseBounds extends Trial {
    public static void main(String[] args) {
        HouseBounds bounds = new HouseBounds();
        bounds.undoMany();
        bounds.undoKinds();
        bounds.undoAll();
        bounds.undoLocks();
        bounds.undoHomes();
        bounds.undoStays();
        bounds.ofDoc();
        bounds.ofDocKinds();
        bounds.alike();
        bounds.alikeMarks();
        bounds.house();
        bounds.knocks();
        bounds.sound();
        bounds.soundLimits();
        bounds.digest();
        bounds.digestParts();
        bounds.end();
    }

    private void undoMany() {
        start("The last 4 CHANGES can be undone");
        state("none", Pagedocument::undo);
        for (int k = 3; k <= 9; k++) {
            int object = k;
            define(0, object, "" + object);
            due("how many can be", Math.min(object - 2, 4), x -> x.house(2));
        }
        for (int left = 3; left >= 0; left--) {
            int many = left;
            due("undone", many, Pagedocument::undo);
            due("OBJECTS", 5 + many, x -> x.ofDoc(0, 0));
            due("how many can be", many, x -> x.house(2));
        }
        state("no fifth", Pagedocument::undo);
        due("the fifth from behind stays", "5", x -> x.object(0, 5));
        due("the fourth went", "", x -> x.object(0, 6));
        define(1, 9, "1");
        due("one again", 0, Pagedocument::undo);
        state("no more", Pagedocument::undo);
    }

    private void undoKinds() {
        start("CHANGES: all methods that are said to be some, if they do not tell a number below 0");
        file(0, body(1, "<</Kind/Root/Pages 2 R/Fields<</A<</Most 9/Value()>>>>>>") + body(2, "<</Kind/Tree/Kids[3 R 4 R]>>")
                + body(3, "<</Kind/Page>>") + body(4, "<</Kind/Page/Parts 5 R>>") + body(5, "", "0 0 1 1 B") + body(9, "", "x"));
        does(x -> x.repair(0, 0));
        does(x -> x.write(0, 0, false));
        does(x -> x.drop(0, 60));
        does(x -> x.drop(0, 60));
        type("5");
        keep();
        Call[] changes = {x -> x.fresh(0), x -> x.read(0, 1), x -> x.repair(0, 1), x -> x.define(0, 9), x -> x.define(1, 60),
            x -> x.stream(0, 9), x -> x.stream(0, 1), x -> x.drop(0, 9), x -> x.drop(0, 1), x -> x.filter(0, 9, 0, -1, -1),
            x -> x.sweep(0), x -> x.newPage(0, 0, 1, 1), x -> x.movePage(0, 0, 1), x -> x.dropPage(0, 0), x -> x.turnPage(0, 0, 1),
            x -> x.boxPage(0, 0, 0, 0, 8, 8), x -> x.addPart(0, 0), x -> x.addText(0, 0, 0, 0, 1, 0),
            x -> x.addBox(0, 0, 0, 0, 1, 1), x -> x.form(0, 0, 0), x -> x.black(0, 1, 0, 0, 1, 1), x -> x.merge(1),
            x -> x.split(0, 0, 0), x -> x.note(0, 0, 0, 0, 0), x -> x.title(0, 0, 0, 0), x -> x.field(0, 1, 9),
            x -> x.fill(0, 0, 1), x -> x.lock(0, 5, 5)};
        for (int k = 0; k < changes.length; k++) {
            Call change = changes[k];
            back();
            Object[] before = new Object[1];
            due("three are left ahead of " + k, 3, x -> x.house(2));
            does(x -> {
                before[0] = x.digest();
                return 0;
            });
            does(change);
            due("CHANGE " + k, 4, x -> x.house(2));
            due("another DOCUMENT by " + k, true, x -> !before[0].equals(x.digest()));
            due("taken back", 3, Pagedocument::undo);
            due("as it was ahead of " + k, true, x -> before[0].equals(x.digest()));
        }
        goOn("also if nothing is other then");
        Call[] idle = {x -> x.fresh(1), x -> x.drop(0, 60), x -> x.sweep(1), x -> x.movePage(0, 0, 0), x -> x.turnPage(0, 0, 0),
            x -> x.black(0, 0, 50, 50, 1, 1), x -> x.merge(0), x -> x.lock(0, -1, 0)};
        for (int k = 0; k < idle.length; k++) {
            back();
            does(idle[k]);
            due("CHANGE " + k, 4, x -> x.house(2));
        }
        back();
        goOn("all else is none");
        Call[] others = {x -> x.say(97, -1, -1, -1, -1, -1), x -> x.line(), x -> x.fault(), x -> x.written(), x -> x.filtered(0, false),
            x -> x.size(0), x -> x.text(0, 0), x -> x.place(0, 0), x -> x.hurt(0, 0, 37), x -> x.put(3, 0), x -> x.cut(3, 0),
            x -> x.copyFile(3, 0), x -> x.write(1, 1, true), x -> x.update(1), x -> x.faultOf(0), x -> x.object(0, 1),
            x -> x.data(0, 1, true), x -> x.isReached(0, 1), x -> x.ofPage(0, 0, 6), x -> x.drawn(0, 0, 0), x -> x.content(0, 0),
            x -> x.find(0, 0, 0, 0), x -> x.valueOf(0, 0), x -> x.open(0, 0), x -> x.ofDoc(0, 0), x -> x.alike(), x -> x.house(0),
            x -> x.knock(), x -> x.isSound(), x -> x.digest()};
        for (int k = 0; k < others.length; k++) {
            Call other = others[k];
            due("no CHANGE " + k, 3, x -> {
                other.on(x);
                return x.house(2);
            });
        }
    }

    private void undoAll() {
        start("all DOCUMENTS are as they were then");
        does(x -> x.newPage(0, 0, 9, 9));
        define(1, 60, "(sixty)");
        does(x -> x.merge(1));
        due("the other one is changed", 1, x -> x.ofDoc(1, 2));
        does(x -> x.split(1, 0, 0));
        due("the one is NEW", 3, x -> x.ofDoc(0, 0));
        does(Pagedocument::undo);
        due("split undone", "<</Count 1 /Kids [3 R] /Kind /Tree>>", x -> x.object(0, 2));
        due("the other one stays", 1, x -> x.ofDoc(1, 2));
        does(Pagedocument::undo);
        due("merge undone", 0, x -> x.ofDoc(1, 2));
        due("60", "(sixty)", x -> x.object(1, 60));
        does(Pagedocument::undo);
        due("define undone", "", x -> x.object(1, 60));
        does(Pagedocument::undo);
        due("newPage undone", 0, x -> x.ofDoc(0, 2));
        goOn("with its ROOT");
        file(0, body(9, "<</Kind/Root>>"));
        does(x -> x.repair(0, 0));
        due("ROOT", 9, x -> x.ofDoc(0, 3));
        does(Pagedocument::undo);
        due("ROOT", 1, x -> x.ofDoc(0, 3));
    }

    private void undoLocks() {
        start("(with LOCK and whether they were OPEN)");
        does(x -> x.lock(0, 5, 3));
        does(x -> x.lock(0, 6, 1));
        does(Pagedocument::undo);
        due("Lets", 3, x -> x.ofDoc(0, 9));
        does(x -> x.write(0, 0, false));
        does(x -> x.read(0, 0));
        due("not OPEN", 0, x -> x.ofDoc(0, 7));
        due("another KEY", 0, x -> x.open(0, 6));
        does(x -> x.open(0, 5));
        does(x -> x.lock(0, -1, 0));
        does(Pagedocument::undo);
        due("LOCK", 1, x -> x.ofDoc(0, 6));
        due("OPEN as it was then", 1, x -> x.ofDoc(0, 7));
        does(Pagedocument::undo);
        due("OPEN as it was locked", 1, x -> x.ofDoc(0, 7));
        does(x -> x.read(0, 0));
        does(x -> x.drop(0, 60));
        does(x -> x.open(0, 5));
        does(Pagedocument::undo);
        due("not OPEN as it was then", 0, x -> x.ofDoc(0, 7));
    }

    private void undoHomes() {
        start("(with HOME)");
        does(x -> x.write(0, 0, false));
        define(0, 1, "<</A 3 R>>");
        does(x -> x.write(0, 2, false));
        due("HOME", 2, x -> x.ofDoc(0, 8));
        does(Pagedocument::undo);
        due("HOME as it was then", 0, x -> x.ofDoc(0, 8));
        idle("with its OBJECTS and its text", 0, x -> x.update(0));
        due("FILES stay", true, x -> x.size(2) > 0);
        does(x -> x.lock(0, 5, 0));
        does(x -> x.update(0));
        does(Pagedocument::undo);
        refused("the FILE has another text then", x -> x.update(0));
        goOn("with the LOCK that it had there");
        does(x -> x.write(0, 0, false));
        does(x -> x.lock(0, 5, 0));
        does(Pagedocument::undo);
        idle("no LOCK then", 0, x -> x.update(0));
        does(x -> x.lock(0, 5, 1));
        does(x -> x.write(0, 0, false));
        for (int[] other : new int[][] {{6, 1}, {5, 2}, {-1, 0}}) {
            does(x -> x.lock(0, other[0], other[1]));
            does(x -> x.write(0, 1, false));
            idle("the new LOCK", 0, x -> x.update(0));
            does(Pagedocument::undo);
            idle("the LOCK that it had", 0, x -> x.update(0));
        }
        start("with the TABLE that it had there");
        does(x -> x.write(0, 0, false));
        define(0, 1, "<</A 2 R/B(longer than it was)>>");
        does(x -> x.write(0, 1, false));
        does(Pagedocument::undo);
        does(x -> x.lock(0, 1, 1));
        due("an UPDATE", true, x -> x.update(0) > 0);
        due("Prev", true, x -> whole(x, 0).contains("/Prev 81 /Root"));
        due("FAULT", 0, x -> x.faultOf(0));
    }

    private void undoStays() {
        start("FILES, the LINE and what was counted stay");
        define(0, 9, "1");
        type("abc");
        does(x -> x.put(0, 0));
        does(Pagedocument::knock);
        does(Pagedocument::undo);
        due("LINE", "abc", Pagedocument::line);
        due("FILE", "abc", x -> x.text(0, 0));
        due("knocks", 1, x -> x.house(3));
    }

    private void ofDoc() {
        start("IllegalArgumentException if what is not 0 to 9");
        for (int what : new int[] {-1, 10, Integer.MAX_VALUE, Integer.MIN_VALUE}) {
            argument("what " + what, x -> x.ofDoc(0, what));
        }
        for (int doc : new int[] {-1, 2, Integer.MAX_VALUE, Integer.MIN_VALUE}) {
            index("DOCUMENT " + doc, x -> x.ofDoc(doc, 0));
            index("and no such what", x -> x.ofDoc(doc, 10));
        }
        goOn("of a NEW one");
        int[] due = {2, 2, 0, 1, 0, 0, 0, 1, -1, 7};
        for (int k = 0; k < due.length; k++) {
            int what = k;
            idle("what " + k, due[k], x -> x.ofDoc(1, what));
        }
    }

    private void ofDocKinds() {
        start("0 OBJECTS, 1 come to, 2 PAGES, 3 ROOT, 4 LINES, 5 FIELDS, 6 LOCK, 7 OPEN, 8 HOME, 9 Lets");
        String root = "<</Kind/Root/Pages 2 R/Lines[<</Deep 0/Title()/To 3 R>><</Deep 0/Title()/To 3 R>>]"
                + "/Fields<</A<</Most 1/Value()>>/B<</Most 1/Value()>>/C<</Most 1/Value()>>>>>>";
        file(3, body(9, root) + body(2, "<</Kind/Tree/Kids[3 R 4 R 5 R 6 R]>>") + body(3, "<</Kind/Page>>")
                + body(4, "<</Kind/Page>>") + body(5, "<</Kind/Page>>") + body(6, "<</Kind/Page>>") + body(60, "null"));
        does(x -> x.repair(3, 0));
        does(x -> x.lock(0, 5, 6));
        does(x -> x.write(0, 3, false));
        define(0, 60, "null");
        int[] due = {7, 6, 4, 9, 2, 3, 1, 1, 3, 6};
        for (int k = 0; k < due.length; k++) {
            int what = k;
            idle("what " + k, due[k], x -> x.ofDoc(0, what));
        }
        does(x -> x.read(3, 0));
        idle("not OPEN", 0, x -> x.ofDoc(0, 7));
    }

    private void alike() {
        start("how many PAGES, from the first one on, both DOCUMENTS have alike: the same BOX, TURN and MARKS");
        idle("none", 0, Pagedocument::alike);
        does(x -> x.newPage(0, 0, 5, 5));
        idle("one has none", 0, Pagedocument::alike);
        does(x -> x.newPage(1, 0, 5, 5));
        idle("one", 1, Pagedocument::alike);
        does(x -> x.newPage(1, 1, 6, 6));
        idle("one has two", 1, Pagedocument::alike);
        does(x -> x.newPage(0, 1, 6, 7));
        idle("another h", 1, Pagedocument::alike);
        int[][] boxes = {{0, 0, 7, 6}, {1, 0, 6, 6}, {0, 1, 6, 6}};
        for (int[] box : boxes) {
            does(x -> x.boxPage(0, 1, box[0], box[1], box[2], box[3]));
            idle("another BOX", 1, Pagedocument::alike);
        }
        does(x -> x.boxPage(0, 1, 0, 0, 6, 6));
        idle("both", 2, Pagedocument::alike);
        does(x -> x.turnPage(0, 0, 1));
        idle("TURN of the first", 0, Pagedocument::alike);
        does(x -> x.turnPage(0, 0, 3));
        idle("TURN of 4", 2, Pagedocument::alike);
        does(x -> x.note(0, 0, 1, 1, 1));
        idle("NOTES do not matter", 2, Pagedocument::alike);
    }

    private void alikeMarks() {
        start("the same MARKS, of the first 24");
        for (int k = 0; k < 2; k++) {
            int doc = k;
            does(x -> x.newPage(doc, 0, 20, 20));
            define(doc, 3, "<</Kind/Page/Parts[30 R 31 R]>>");
            stream(doc, 30, times(16, "0 0 1 1 B "));
        }
        stream(0, 31, times(7, "0 0 1 1 B ") + "1 1 P (a) T (b) T");
        for (String other : new String[] {"1 1 P (c) T", "1 1 P (b) T", "2 1 P (a) T", "1 2 P (a) T", "2 Z 1 1 P (a) T",
            "1 1 2 1 B", "", "1 1 1 1 B"}) {
            stream(1, 31, times(7, "0 0 1 1 B ") + other);
            idle("another 24th: " + other, 0, Pagedocument::alike);
        }
        stream(1, 31, times(7, "0 0 1 1 B ") + "1 1 P (a) T (c) T w");
        idle("another 25th", 1, Pagedocument::alike);
        stream(1, 31, times(7, "0 0 1 1 B ") + "1 1 P (a) T");
        idle("no 25th", 1, Pagedocument::alike);
        stream(1, 31, times(6, "0 0 1 1 B ") + "0 0 1 2 B 1 1 P (a) T");
        idle("another 23rd", 0, Pagedocument::alike);
        stream(0, 30, "(c) T");
        stream(0, 31, "");
        stream(1, 31, "");
        for (String other : new String[] {"(f) T", "0 0 1 1 B", "(c) T (c) T", ""}) {
            stream(1, 30, other);
            idle("another first: " + other, 0, Pagedocument::alike);
        }
        stream(1, 30, "(c) T");
        idle("the same first", 1, Pagedocument::alike);
        stream(0, 30, times(16, "0 0 1 1 B "));
        stream(0, 31, times(7, "0 0 1 1 B ") + "1 1 P (a) T (b) T");
        stream(1, 30, "0 0 1 2 B " + times(15, "0 0 1 1 B "));
        stream(1, 31, times(7, "0 0 1 1 B ") + "1 1 P (a) T");
        idle("another first", 0, Pagedocument::alike);
    }

    private void house() {
        start("0 how long the LINE is, 1 how long all FILES are, 2 how many CHANGES can be taken back, 3 how often one knocked");
        for (int file = 0; file < 4; file++) {
            int one = file;
            file(file, times(10 * (one + 1) + 1, "x"));
        }
        type("abc");
        does(x -> x.drop(0, 9));
        does(x -> x.drop(0, 9));
        does(Pagedocument::knock);
        int[] due = {3, 104, 2, 1};
        for (int k = 0; k < due.length; k++) {
            int what = k;
            idle("what " + k, due[k], x -> x.house(what));
        }
        for (int what : new int[] {-1, 4, Integer.MAX_VALUE, Integer.MIN_VALUE}) {
            argument("what " + what, x -> x.house(what));
        }
        goOn("the greatest");
        file(0, times(6000, "x"));
        for (int file = 1; file < 4; file++) {
            int one = file;
            does(x -> x.copyFile(one, 0));
        }
        idle("24000", 24000, x -> x.house(1));
        type(times(200, "x"));
        idle("200", 200, x -> x.house(0));
    }

    private void knocks() {
        start("Returns how often one knocked, with this");
        for (int k = 1; k <= 40; k++) {
            due("knock " + k, k, Pagedocument::knock);
        }
        idle("all", 40, x -> x.house(3));
    }

    private void sound() {
        start("isSound()");
        idle("NEW", true, Pagedocument::isSound);
        repaired(body(1, "<</Kind/Root/Pages 2 R/A 60 R/B 7 R>>") + body(2, "<</Kind/Tree/Kids[3 R 4 R 9 R]/Turn 7/Box[1 2 3 4]>>")
                + body(3, "<</Kind/Page/Parts[5 R 6 R]/Forms<</A 8 R>>>>") + body(4, "<</Kind/Tree/Kids[3 R]>>")
                + body(5, "/Filter/Run", "~30 /A X") + body(6, "/Filter/Hex", "~") + body(7, "", "%D1\n1 o\n5\nend\n<</Root 2 R>>\n")
                + body(8, "/Kind/Form", "0 0 9 9 B /A X") + body(9, "<</Kind/Page>>") + body(60, "(~~~^^^\\(\\)\\\\)"));
        idle("a DOCUMENT of all kinds", true, Pagedocument::isSound);
        does(x -> x.lock(0, 5, 5));
        idle("with a LOCK", true, Pagedocument::isSound);
        does(x -> x.drop(0, 1));
        idle("without its ROOT", true, Pagedocument::isSound);
        define(0, 1, "5");
        idle("with another ROOT", true, Pagedocument::isSound);
    }

    private void soundLimits() {
        start("(if WRITTEN it is not longer than 6000; also with PACKS, if numbers are left; if that can be)");
        StringBuilder kids = new StringBuilder();
        for (int n = 3; n <= 14; n++) {
            kids.append(n).append(" R ");
        }
        define(0, 1, "<</A[" + kids + "]/B[15 R 16 R 17 R 18 R 19 R 20 R 21 R 22 R 23 R 24 R 25 R 26 R]/C[27 R 28 R 29 R 30 R]>>");
        type(times(200, "s"));
        for (int n = 3; n <= 30; n++) {
            int object = n;
            does(x -> x.stream(0, object));
        }
        refused("it is too long", x -> x.write(0, 0, false));
        idle("too long", true, Pagedocument::isSound);
        type("1");
        for (int n = 31; n <= 68; n++) {
            int object = n <= 60 ? n : n - 59;
            does(x -> x.define(0, object));
        }
        due("it can be WRITTEN", true, x -> x.write(0, 0, false) > 4000);
        refused("not with PACKS", x -> x.write(0, 0, true));
        idle("no numbers are left", true, Pagedocument::isSound);
        start("a STREAM of Kind /Pack");
        define(0, 3, "<</Kind/Pack>>");
        stream(0, 3, "x");
        define(0, 1, "<</Pages 3 R>>");
        idle("not WRITTEN", true, Pagedocument::isSound);
        start("it can not be made FLAT");
        stream(0, 1, "");
        idle("a STREAM as ROOT", true, Pagedocument::isSound);
    }

    private static long withText(long before, String text) {
        long d = before * 31 + text.length();
        for (int k = 0; k < text.length(); k++) {
            d = d * 31 + text.charAt(k);
        }
        return d;
    }

    /** The checksum, as the document tells it, of what the calls answer. */
    private static long checksum(Pagedocument x) {
        long d = 7611;
        for (int what = 0; what < 4; what++) {
            d = d * 31 + x.house(what);
        }
        d = withText(d, x.line());
        for (int file = 0; file < 4; file++) {
            d = withText(d * 31 + x.faultOf(file), whole(x, file));
        }
        for (int doc = 0; doc < 2; doc++) {
            for (int what = 0; what < 10; what++) {
                d = d * 31 + x.ofDoc(doc, what);
            }
            for (int object = 1; object <= 60; object++) {
                d = withText(withText(d, x.object(doc, object)), x.data(doc, object, false));
            }
            for (int page = 0; page < x.ofDoc(doc, 2); page++) {
                for (int what = 0; what < 9; what++) {
                    d = d * 31 + x.ofPage(doc, page, what);
                }
                for (int mark = 0; mark < x.ofPage(doc, page, 6); mark++) {
                    d = withText(d, x.mark(doc, page, mark));
                }
                for (int note = 0; note < x.ofPage(doc, page, 8); note++) {
                    d = withText(d, x.noteOf(doc, page, note));
                }
            }
            for (int line = 0; line < x.ofDoc(doc, 4); line++) {
                d = withText(d, x.lineOf(doc, line));
            }
        }
        return (d * 31 + x.alike()) * 31 + (x.isSound() ? 1 : 0);
    }

    private void isDigested() {
        idle("checksum", checksum(again()), Pagedocument::digest);
    }

    private void digest() {
        start("A number d starts with 7611; then d becomes d * 31 + v, which wraps around as a 64-bit integer");
        idle("of a NEW one", -7136693695967437342L, Pagedocument::digest);
        isDigested();
        type(times(200, "~"));
        isDigested();
        does(x -> x.put(3, 0));
        does(x -> x.write(0, 1, true));
        isDigested();
        does(x -> x.newPage(0, 0, 9, 9));
        does(x -> x.newPage(1, 0, 9, 9));
        does(x -> x.addText(0, 0, 0, 0, 1, 999));
        does(x -> x.note(1, 0, -1, 2, 3));
        does(x -> x.title(0, 2, 3, 0));
        does(x -> x.field(1, 4, 5));
        does(x -> x.lock(1, 5, 6));
        does(Pagedocument::knock);
        isDigested();
        does(x -> x.merge(0));
        isDigested();
    }

    private void digestParts() {
        start("each of these counts");
        does(x -> x.newPage(0, 0, 9, 9));
        does(x -> x.newPage(1, 0, 9, 9));
        does(x -> x.write(1, 0, false));
        Call[] changes = {x -> x.say(97, -1, -1, -1, -1, -1), Pagedocument::knock, x -> x.hurt(0, 0, 38), x -> x.hurt(0, 100, 38),
            x -> x.cut(0, 100), x -> x.copyFile(3, 0), x -> x.drop(0, 60), x -> x.stream(1, 60),
            x -> x.turnPage(1, 0, 1), x -> x.boxPage(0, 0, 1, 0, 9, 9), x -> x.addBox(1, 0, 1, 1, 1, 1),
            x -> x.note(1, 0, 1, 1, 1), x -> x.title(1, 1, 1, 0), x -> x.field(1, 1, 1), x -> x.lock(1, 1, 1),
            x -> x.lock(0, 1, 7), x -> x.write(0, 0, true), x -> x.newPage(1, 1, 9, 9),
            x -> x.stream(0, 1), x -> x.drop(1, 1)};
        keep();
        for (int k = 0; k < changes.length; k++) {
            Call change = changes[k];
            back();
            due("digest is another one behind call " + k, true, x -> {
                long before = x.digest();
                change.on(x);
                return before != x.digest();
            });
            isDigested();
        }
    }
}
