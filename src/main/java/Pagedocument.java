import java.util.Arrays;

/**
 * A reader, editor and writer of paged documents. An object makes its rows once, in the constructor, and uses
 * them again in each call: what a VALUE is, is kept as it is WRITTEN, as signs in one store.
 */
public final class Pagedocument {
    private static final int NONE = -1;
    private static final int GONE = -2;
    private static final int PACKED = -3;
    private static final int LOST = -4;
    private static final int FAULTY = -7;
    private static final int REFUSED = -9;
    private static final int OBJECTS = 60;
    private static final int DOCUMENTS = 2;
    private static final int FILES = 4;
    private static final int MOST_VALUES = 12;
    private static final int MOST_NAMES = 10;
    private static final int MOST_DEEP = 5;
    private static final int MOST_STRING = 40;
    private static final int MOST_DATA = 500;
    private static final int MOST_FILE = 6000;
    private static final int MOST_LINE = 200;
    private static final int MOST_SHOWN = 100;
    private static final int MOST_CHANGES = 4;
    private static final int HEX = 0;
    private static final int RUN = 1;
    private static final int BACK = 2;
    private static final int PAGES_LET = 0;
    private static final int CONTENTS_LET = 1;
    private static final int NOTES_LET = 2;

    private final Text line = new Text(MOST_LINE);
    private final Text[] files = new Text[FILES];
    private final Doc[] docs = new Doc[DOCUMENTS];
    /** DOCUMENTS as they were ahead of the last CHANGES, two by two, and one pair more for the CHANGE that is tried. */
    private final Doc[] past = new Doc[DOCUMENTS * (MOST_CHANGES + 1)];
    private final Text out = new Text(MOST_FILE);
    private final Text made = new Text(MOST_FILE);
    private final Text undone = new Text(MOST_DATA);
    private final int[] codes = new int[6];
    private final StringBuilder told = new StringBuilder();
    private final Reader reader = new Reader();
    private final Sieve sieve = new Sieve();
    private final Store store;
    private final Walk walk;
    private final Walk otherWalk;
    private final Painter painter;
    private final Writer writer;
    private final Loader loader;
    private final Editor editor;
    private int changes;
    private int knocks;

    public Pagedocument() {
        Doc[] holders = new Doc[DOCUMENTS + DOCUMENTS * (MOST_CHANGES + 1) + 2];
        for (int k = 0; k < FILES; k++) {
            files[k] = new Text(MOST_FILE);
        }
        for (int k = 0; k < DOCUMENTS; k++) {
            docs[k] = new Doc();
            holders[k] = docs[k];
        }
        for (int k = 0; k < past.length; k++) {
            past[k] = new Doc();
            holders[DOCUMENTS + k] = past[k];
        }
        Doc loaded = new Doc();
        Doc copy = new Doc();
        holders[holders.length - 2] = loaded;
        holders[holders.length - 1] = copy;
        store = new Store(holders);
        walk = new Walk(store);
        otherWalk = new Walk(store);
        painter = new Painter(store, sieve, reader);
        writer = new Writer(store, walk, sieve);
        loader = new Loader(store, reader, sieve, loaded);
        editor = new Editor(store, walk, copy);
        editor.makeNew(docs[0]);
        editor.makeNew(docs[1]);
    }

    // ---- the line

    public int say(int a, int b, int c, int d, int e, int f) throws IllegalArgumentException, IllegalStateException {
        codes[0] = a;
        codes[1] = b;
        codes[2] = c;
        codes[3] = d;
        codes[4] = e;
        codes[5] = f;
        for (int k = 0; k < codes.length; k++) {
            if (!isTyped(codes[k])) {
                throw new IllegalArgumentException("a code that can not be typed");
            }
        }
        int length = line.length;
        for (int k = 0; k < codes.length; k++) {
            length = lengthBehind(length, codes[k]);
            if (length > MOST_LINE) {
                throw new IllegalStateException("the line would be too long");
            }
        }
        for (int k = 0; k < codes.length; k++) {
            type(codes[k]);
        }
        return line.length;
    }

    public String line() {
        return textOf(line);
    }

    public int fault() {
        int behind = reader.readValue(line.signs, 0, line.length);
        if (behind < 0) {
            return reader.fault;
        }
        int rest = Values.pass(line.signs, behind, line.length);
        return rest < line.length ? rest : NONE;
    }

    public String written() {
        return fault() == NONE ? textOf(reader.out) : "-";
    }

    public String filtered(int filter, boolean isUndone) throws IllegalArgumentException {
        if (filter < HEX || filter > BACK) {
            throw new IllegalArgumentException("no such filter");
        }
        boolean isMade = isUndone ? sieve.unmake(filter, line, out) : sieve.make(filter, line, out);
        return isMade ? textOf(out) : "-";
    }

    // ---- files

    public int size(int file) throws IndexOutOfBoundsException {
        return fileOf(file).length;
    }

    public String text(int file, int from) throws IndexOutOfBoundsException {
        Text asked = fileOf(file);
        needPlace(from, asked.length);
        int to = asked.length - from > MOST_SHOWN ? from + MOST_SHOWN : asked.length;
        out.clear();
        out.addRange(asked.signs, from, to);
        return textOf(out);
    }

    public int place(int file, int from) throws IndexOutOfBoundsException {
        Text asked = fileOf(file);
        needPlace(from, asked.length);
        for (int at = from; at + line.length <= asked.length; at++) {
            if (asked.hasAt(at, line)) {
                return at;
            }
        }
        return NONE;
    }

    public int hurt(int file, int place, int code) throws IndexOutOfBoundsException, IllegalArgumentException {
        Text asked = fileOf(file);
        needPlace(place, asked.length - 1);
        if (!isSign(code)) {
            throw new IllegalArgumentException("no sign");
        }
        int was = asked.signs[place];
        asked.signs[place] = (byte) code;
        return was;
    }

    public int cut(int file, int length) throws IndexOutOfBoundsException {
        Text asked = fileOf(file);
        needPlace(length, asked.length);
        int went = asked.length - length;
        asked.length = length;
        return went;
    }

    public int put(int file, int place) throws IndexOutOfBoundsException {
        Text asked = fileOf(file);
        needPlace(place, asked.length);
        if (asked.length + line.length > MOST_FILE) {
            return REFUSED;
        }
        out.clear();
        out.addRange(asked.signs, 0, place);
        out.addRange(line.signs, 0, line.length);
        out.addRange(asked.signs, place, asked.length);
        asked.take(out);
        return asked.length;
    }

    public int copyFile(int file, int from) throws IndexOutOfBoundsException {
        Text changed = fileOf(file);
        Text other = fileOf(from);
        if (file != from) {
            changed.take(other);
        }
        return changed.length;
    }

    // ---- documents and files

    public int fresh(int doc) throws IndexOutOfBoundsException {
        Doc changed = docOf(doc);
        begin();
        int had = changed.count();
        editor.makeNew(changed);
        return end(had);
    }

    public int write(int doc, int file, boolean isPacked) throws IndexOutOfBoundsException {
        Doc asked = docOf(doc);
        Text target = fileOf(file);
        if (!writer.writeWhole(asked, isPacked, out)) {
            return REFUSED;
        }
        target.take(out);
        settleWritten(asked, file);
        return target.length;
    }

    public int update(int doc) throws IndexOutOfBoundsException {
        Doc asked = docOf(doc);
        if (asked.homeFile < 0 || asked.homeFile >= FILES) {
            return REFUSED;
        }
        Text target = files[asked.homeFile];
        if (!store.isText(asked.homeText, target)) {
            return REFUSED;
        }
        int length = writer.writeUpdate(asked, target, out);
        if (length > 0) {
            target.take(out);
            settleWritten(asked, asked.homeFile);
        }
        return length;
    }

    public int read(int file, int doc) throws IndexOutOfBoundsException {
        Text source = fileOf(file);
        Doc changed = docOf(doc);
        int fault = loader.load(source);
        if (fault != 0) {
            return -fault;
        }
        begin();
        changed.take(loader.loaded);
        changed.homeText = store.add(source, source.length, false);
        changed.settle(file, loader.start);
        return end(changed.count());
    }

    public int repair(int file, int doc) throws IndexOutOfBoundsException {
        Text source = fileOf(file);
        Doc changed = docOf(doc);
        if (!loader.mend(source)) {
            return REFUSED;
        }
        begin();
        changed.take(loader.loaded);
        return end(changed.count());
    }

    public int faultOf(int file) throws IndexOutOfBoundsException {
        return loader.load(fileOf(file));
    }

    // ---- objects

    public String object(int doc, int object) throws IndexOutOfBoundsException {
        Doc asked = docOf(doc);
        needObject(object);
        tellObject(asked, object);
        return textOf(out);
    }

    public String data(int doc, int object, boolean isText) throws IndexOutOfBoundsException {
        Doc asked = docOf(doc);
        needObject(object);
        tellData(asked, object, isText);
        return textOf(out);
    }

    public boolean isReached(int doc, int object) throws IndexOutOfBoundsException {
        Doc asked = docOf(doc);
        needObject(object);
        walk.reach(asked);
        return walk.hasCome(object);
    }

    public int define(int doc, int object) throws IndexOutOfBoundsException {
        Doc changed = docOf(doc);
        needObject(object);
        if (!changed.letsChange(CONTENTS_LET)) {
            return REFUSED;
        }
        if (fault() != NONE) {
            return FAULTY;
        }
        begin();
        int had = changed.has(object) ? 1 : 0;
        changed.object[object] = store.add(reader.out, reader.out.length, false);
        return end(had);
    }

    public int stream(int doc, int object) throws IndexOutOfBoundsException {
        Doc changed = docOf(doc);
        needObject(object);
        if (!changed.letsChange(CONTENTS_LET)) {
            return REFUSED;
        }
        begin();
        int had = changed.has(object) ? 1 : 0;
        return end(editor.makeStream(changed, object, line) ? had : REFUSED);
    }

    public int drop(int doc, int object) throws IndexOutOfBoundsException {
        Doc changed = docOf(doc);
        needObject(object);
        if (!changed.letsChange(CONTENTS_LET)) {
            return REFUSED;
        }
        begin();
        int had = changed.has(object) ? 1 : 0;
        changed.object[object] = 0;
        return end(had);
    }

    public int filter(int doc, int object, int first, int second, int third)
            throws IndexOutOfBoundsException, IllegalArgumentException {
        Doc changed = docOf(doc);
        needObject(object);
        if (!isFilterOrNone(first) || !isFilterOrNone(second) || !isFilterOrNone(third)) {
            throw new IllegalArgumentException("no such filter");
        }
        if (first == NONE && second != NONE || second == NONE && third != NONE) {
            throw new IllegalArgumentException("a filter behind none");
        }
        if (!changed.letsChange(CONTENTS_LET) || !tellText(changed, object, made)) {
            return REFUSED;
        }
        if (!isMadeBy(third) || !isMadeBy(second) || !isMadeBy(first)) {
            return REFUSED;
        }
        begin();
        return end(editor.tellFilters(changed, object, first, second, third, made) ? made.length : REFUSED);
    }

    public int sweep(int doc) throws IndexOutOfBoundsException {
        Doc changed = docOf(doc);
        if (!changed.letsChange(CONTENTS_LET)) {
            return REFUSED;
        }
        begin();
        int went = 0;
        walk.reach(changed);
        for (int n = 1; n <= OBJECTS; n++) {
            if (changed.has(n) && !walk.hasCome(n)) {
                changed.object[n] = 0;
                went++;
            }
        }
        return end(went);
    }

    // ---- pages

    public int ofPage(int doc, int page, int what) throws IndexOutOfBoundsException, IllegalArgumentException {
        Doc asked = docOf(doc);
        needPage(asked, page);
        if (what < 0 || what > 8) {
            throw new IllegalArgumentException("no such fact of a page");
        }
        if (what == 6 || what == 7) {
            painter.paint(asked, walk, page);
        }
        return factOfPage(asked, page, what);
    }

    public String mark(int doc, int page, int mark) throws IndexOutOfBoundsException {
        Doc asked = docOf(doc);
        needPage(asked, page);
        painter.paint(asked, walk, page);
        if (mark < 0 || mark >= painter.marks) {
            throw new IndexOutOfBoundsException("no such mark");
        }
        out.clear();
        painter.tellMark(mark, out);
        return textOf(out);
    }

    public String drawn(int doc, int page, int row) throws IndexOutOfBoundsException {
        Doc asked = docOf(doc);
        needPage(asked, page);
        int turn = walk.turn(asked, page);
        int rows = turn % 2 == 0 ? walk.box(asked, page, 3) : walk.box(asked, page, 2);
        if (row < 0 || row >= rows) {
            throw new IndexOutOfBoundsException("no such row");
        }
        painter.paint(asked, walk, page);
        out.clear();
        painter.draw(row, turn, out);
        return textOf(out);
    }

    public String content(int doc, int page) throws IndexOutOfBoundsException {
        Doc asked = docOf(doc);
        needPage(asked, page);
        painter.tellContent(asked, walk.pageAt(page), out);
        return textOf(out);
    }

    public int find(int doc, int page, int word, int k) throws IndexOutOfBoundsException, IllegalArgumentException {
        Doc asked = docOf(doc);
        needPage(asked, page);
        if (word < 0 || word > 999 || k < 0) {
            throw new IllegalArgumentException("no such word, or a place below 0");
        }
        painter.paint(asked, walk, page);
        out.clear();
        out.addWord(word);
        return painter.placeOf(out, k);
    }

    public int newPage(int doc, int at, int w, int h) throws IndexOutOfBoundsException, IllegalArgumentException {
        Doc changed = docOf(doc);
        walk.list(changed);
        if (at < 0 || at > walk.pages || !isIn(w, 1, 40) || !isIn(h, 1, 40)) {
            throw new IllegalArgumentException("no such place for a page, or no such size");
        }
        if (!changed.letsChange(PAGES_LET)) {
            return REFUSED;
        }
        begin();
        return end(editor.addPage(changed, at, w, h));
    }

    public int movePage(int doc, int page, int to) throws IndexOutOfBoundsException {
        Doc changed = docOf(doc);
        needPage(changed, page);
        needPage(changed, to);
        if (!changed.letsChange(PAGES_LET)) {
            return REFUSED;
        }
        begin();
        return end(editor.shiftPage(changed, page, to));
    }

    public int dropPage(int doc, int page) throws IndexOutOfBoundsException {
        Doc changed = docOf(doc);
        needPage(changed, page);
        if (!changed.letsChange(PAGES_LET)) {
            return REFUSED;
        }
        begin();
        return end(editor.takePageOut(changed, page));
    }

    public int turnPage(int doc, int page, int quarters) throws IndexOutOfBoundsException, IllegalArgumentException {
        Doc changed = docOf(doc);
        needPage(changed, page);
        if (quarters < 0 || quarters > 3) {
            throw new IllegalArgumentException("no such turn");
        }
        if (!changed.letsChange(PAGES_LET)) {
            return REFUSED;
        }
        begin();
        return end(editor.tellTurn(changed, page, (walk.turn(changed, page) + quarters) % 4));
    }

    public int boxPage(int doc, int page, int x, int y, int w, int h)
            throws IndexOutOfBoundsException, IllegalArgumentException {
        Doc changed = docOf(doc);
        needPage(changed, page);
        if (!isIn(x, -99, 99) || !isIn(y, -99, 99) || !isIn(w, 1, 40) || !isIn(h, 1, 40)) {
            throw new IllegalArgumentException("no such box");
        }
        if (!changed.letsChange(PAGES_LET)) {
            return REFUSED;
        }
        begin();
        return end(editor.tellBox(changed, page, x, y, w, h) ? marksOf(changed, page) : REFUSED);
    }

    public int addPart(int doc, int page) throws IndexOutOfBoundsException {
        Doc changed = docOf(doc);
        needPage(changed, page);
        if (!changed.letsChange(CONTENTS_LET)) {
            return REFUSED;
        }
        begin();
        return end(editor.addStream(changed, page, line));
    }

    public int addText(int doc, int page, int x, int y, int size, int word)
            throws IndexOutOfBoundsException, IllegalArgumentException {
        Doc changed = docOf(doc);
        needPage(changed, page);
        if (!isIn(x, -99, 99) || !isIn(y, -99, 99) || !isIn(size, 1, 9) || !isIn(word, 0, 999)) {
            throw new IllegalArgumentException("no such text");
        }
        if (!changed.letsChange(CONTENTS_LET)) {
            return REFUSED;
        }
        made.clear();
        made.addNumber(size);
        made.addWords(" Z ");
        made.addPair(x, y);
        made.addWords(" P (");
        made.addWord(word);
        made.addWords(") T");
        begin();
        return end(editor.addStream(changed, page, made) < 0 ? REFUSED : marksOf(changed, page));
    }

    public int addBox(int doc, int page, int x, int y, int w, int h)
            throws IndexOutOfBoundsException, IllegalArgumentException {
        Doc changed = docOf(doc);
        needPage(changed, page);
        if (!isRectangle(x, y, w, h)) {
            throw new IllegalArgumentException("no such rectangle");
        }
        if (!changed.letsChange(CONTENTS_LET)) {
            return REFUSED;
        }
        made.clear();
        made.addPair(x, y);
        made.add(' ');
        made.addPair(w, h);
        made.addWords(" B");
        begin();
        return end(editor.addStream(changed, page, made) < 0 ? REFUSED : marksOf(changed, page));
    }

    public int form(int doc, int page, int letter) throws IndexOutOfBoundsException, IllegalArgumentException {
        Doc changed = docOf(doc);
        needPage(changed, page);
        needLetter(letter);
        if (!changed.letsChange(CONTENTS_LET)) {
            return REFUSED;
        }
        begin();
        return end(editor.addForm(changed, page, letter, line));
    }

    public int black(int doc, int page, int x, int y, int w, int h)
            throws IndexOutOfBoundsException, IllegalArgumentException {
        Doc changed = docOf(doc);
        needPage(changed, page);
        if (!isRectangle(x, y, w, h)) {
            throw new IllegalArgumentException("no such rectangle");
        }
        if (!changed.letsChange(CONTENTS_LET)) {
            return REFUSED;
        }
        begin();
        painter.paint(changed, walk, page);
        int went = painter.blacken(x, y, w, h, made);
        return end(went == 0 || editor.tellBlackened(changed, page, made) ? went : REFUSED);
    }

    public int merge(int doc) throws IndexOutOfBoundsException {
        Doc changed = docOf(doc);
        if (!changed.letsChange(PAGES_LET)) {
            return REFUSED;
        }
        begin();
        editor.copy.take(docs[1 - doc]);
        return end(editor.join(changed));
    }

    public int split(int doc, int from, int to) throws IndexOutOfBoundsException, IllegalArgumentException {
        Doc asked = docOf(doc);
        needPage(asked, from);
        needPage(asked, to);
        if (to < from) {
            throw new IllegalArgumentException("the last page is ahead of the first one");
        }
        begin();
        editor.copy.take(asked);
        if (!editor.keepPages(from, to)) {
            return end(REFUSED);
        }
        editor.makeNew(docs[1 - doc]);
        return end(editor.join(docs[1 - doc]));
    }

    // ---- notes, lines, fields, locks

    public int note(int doc, int page, int x, int y, int word)
            throws IndexOutOfBoundsException, IllegalArgumentException {
        Doc changed = docOf(doc);
        needPage(changed, page);
        if (!isIn(x, -99, 99) || !isIn(y, -99, 99) || !isIn(word, 0, 999)) {
            throw new IllegalArgumentException("no such note");
        }
        if (!changed.letsChange(NOTES_LET)) {
            return REFUSED;
        }
        begin();
        return end(editor.addNote(changed, page, x, y, word));
    }

    public String noteOf(int doc, int page, int k) throws IndexOutOfBoundsException {
        Doc asked = docOf(doc);
        needPage(asked, page);
        out.clear();
        if (!editor.tellNote(asked, walk.pageAt(page), k, out)) {
            throw new IndexOutOfBoundsException("no such note");
        }
        return textOf(out);
    }

    public int title(int doc, int deep, int word, int page) throws IndexOutOfBoundsException, IllegalArgumentException {
        Doc changed = docOf(doc);
        needPage(changed, page);
        if (!isIn(deep, 0, 3) || !isIn(word, 0, 999)) {
            throw new IllegalArgumentException("no such line");
        }
        if (!changed.letsChange(NOTES_LET)) {
            return REFUSED;
        }
        begin();
        return end(editor.addTitle(changed, deep, word, walk.pageAt(page)) ? editor.titles(changed) : REFUSED);
    }

    public String lineOf(int doc, int k) throws IndexOutOfBoundsException {
        Doc asked = docOf(doc);
        walk.list(asked);
        out.clear();
        if (!editor.tellTitle(asked, k, out)) {
            throw new IndexOutOfBoundsException("no such line");
        }
        return textOf(out);
    }

    public int field(int doc, int letter, int most) throws IndexOutOfBoundsException, IllegalArgumentException {
        Doc changed = docOf(doc);
        needLetter(letter);
        if (!isIn(most, 1, 9)) {
            throw new IllegalArgumentException("no such length");
        }
        if (!changed.letsChange(NOTES_LET)) {
            return REFUSED;
        }
        begin();
        return end(editor.addField(changed, letter, most) ? editor.fields(changed) : REFUSED);
    }

    public int fill(int doc, int letter, int word) throws IndexOutOfBoundsException, IllegalArgumentException {
        Doc changed = docOf(doc);
        needLetter(letter);
        if (!isIn(word, 0, 999)) {
            throw new IllegalArgumentException("no such word");
        }
        if (!changed.letsChange(NOTES_LET)) {
            return REFUSED;
        }
        made.clear();
        made.addWord(word);
        begin();
        return end(editor.tellField(changed, letter, made) ? made.length : REFUSED);
    }

    public String valueOf(int doc, int letter) throws IndexOutOfBoundsException, IllegalArgumentException {
        Doc asked = docOf(doc);
        needLetter(letter);
        out.clear();
        return editor.tellValue(asked, letter, out) ? textOf(out) : "-";
    }

    public int lock(int doc, int key, int lets) throws IndexOutOfBoundsException, IllegalArgumentException {
        Doc changed = docOf(doc);
        if (!isIn(key, NONE, 999) || !isIn(lets, 0, 7)) {
            throw new IllegalArgumentException("no such key, or no such set");
        }
        if (!changed.isUnlocked()) {
            return REFUSED;
        }
        begin();
        int had = changed.hasLock ? 1 : 0;
        changed.hasLock = key != NONE;
        changed.code = key == NONE ? 0 : codeOf(key);
        changed.lets = key == NONE ? 0 : lets;
        changed.isOpen = true;
        return end(had);
    }

    public int open(int doc, int key) throws IndexOutOfBoundsException, IllegalArgumentException {
        Doc asked = docOf(doc);
        if (!isIn(key, 0, 999)) {
            throw new IllegalArgumentException("no such key");
        }
        if (asked.hasLock && asked.code == codeOf(key)) {
            asked.isOpen = true;
        }
        return asked.isUnlocked() ? 1 : 0;
    }

    // ---- the house

    public int undo() throws IllegalStateException {
        if (changes == 0) {
            throw new IllegalStateException("no change can be taken back");
        }
        changes--;
        bringPast();
        return changes;
    }

    public int ofDoc(int doc, int what) throws IndexOutOfBoundsException, IllegalArgumentException {
        Doc asked = docOf(doc);
        if (what < 0 || what > 9) {
            throw new IllegalArgumentException("no such fact of a document");
        }
        return factOfDoc(asked, what);
    }

    public int alike() {
        return pagesAlike(docs[0], docs[1]);
    }

    public int house(int what) throws IllegalArgumentException {
        switch (what) {
            case 0:
                return line.length;
            case 1:
                return files[0].length + files[1].length + files[2].length + files[3].length;
            case 2:
                return changes;
            case 3:
                return knocks;
            default:
                throw new IllegalArgumentException("no such fact of the house");
        }
    }

    public int knock() {
        knocks++;
        return knocks;
    }

    public boolean isSound() {
        return isDocSound(docs[0]) && isFlatSound(docs[0]) && isDocSound(docs[1]) && isFlatSound(docs[1]);
    }

    public long digest() {
        long d = 7611;
        for (int what = 0; what < 4; what++) {
            d = d * 31 + house(what);
        }
        d = withText(d, line);
        for (int k = 0; k < FILES; k++) {
            d = withText(d * 31 + loader.load(files[k]), files[k]);
        }
        for (int k = 0; k < DOCUMENTS; k++) {
            d = withObjects(d, docs[k]);
            d = withPages(d, docs[k]);
            d = withLines(d, docs[k]);
        }
        d = d * 31 + pagesAlike(docs[0], docs[1]);
        boolean isAllSound = isDocSound(docs[0]) && isFlatSound(docs[0]) && isDocSound(docs[1]) && isFlatSound(docs[1]);
        return d * 31 + (isAllSound ? 1 : 0);
    }

    // ---- what the calls share

    private Doc docOf(int doc) {
        if (doc < 0 || doc >= DOCUMENTS) {
            throw new IndexOutOfBoundsException("no such document");
        }
        return docs[doc];
    }

    private Text fileOf(int file) {
        if (file < 0 || file >= FILES) {
            throw new IndexOutOfBoundsException("no such file");
        }
        return files[file];
    }

    private void needPlace(int place, int last) {
        if (place < 0 || place > last) {
            throw new IndexOutOfBoundsException("no such place");
        }
    }

    private void needObject(int object) {
        if (object < 1 || object > OBJECTS) {
            throw new IndexOutOfBoundsException("no such number of an object");
        }
    }

    /** Leaves the PAGES of the DOCUMENT listed, as most that ask for a PAGE go on with them. */
    private void needPage(Doc doc, int page) {
        walk.list(doc);
        if (page < 0 || page >= walk.pages) {
            throw new IndexOutOfBoundsException("no such page");
        }
    }

    private void needLetter(int letter) {
        if (letter < 0 || letter > 25) {
            throw new IllegalArgumentException("no such letter");
        }
    }

    private boolean isIn(int number, int least, int most) {
        return number >= least && number <= most;
    }

    private boolean isRectangle(int x, int y, int w, int h) {
        return isIn(x, -99, 99) && isIn(y, -99, 99) && isIn(w, 1, 99) && isIn(h, 1, 99);
    }

    private boolean isFilterOrNone(int filter) {
        return filter >= NONE && filter <= BACK;
    }

    private static boolean isSign(int code) {
        return code == '\n' || code >= 32 && code <= 126;
    }

    private static int codeOf(int key) {
        return (key * 7 + 3) % 97;
    }

    private String textOf(Text text) {
        told.setLength(0);
        for (int k = 0; k < text.length && k < text.signs.length; k++) {
            told.append((char) text.signs[k]);
        }
        return told.toString();
    }

    private boolean isTyped(int code) {
        return code == NONE || isSign(code) || code >= 200 && code <= 222 || code == 300 || code == 301;
    }

    private int lengthBehind(int length, int code) {
        if (code == NONE) {
            return length;
        }
        if (code == 300) {
            return 0;
        }
        if (code == 301) {
            return length > 0 ? length - 1 : 0;
        }
        return length + (code < 200 ? 1 : wordsOf(code).length());
    }

    private void type(int code) {
        if (code == NONE) {
            return;
        }
        if (code == 300 || code == 301) {
            line.length = lengthBehind(line.length, code);
        } else if (code < 200) {
            line.add(code);
        } else {
            line.addWords(wordsOf(code));
        }
    }

    private static String wordsOf(int code) {
        switch (code) {
            case 200: return "/Kind ";
            case 201: return "/Page";
            case 202: return "/Tree";
            case 203: return "/Kids ";
            case 204: return "/Count ";
            case 205: return "/Box ";
            case 206: return "/Turn ";
            case 207: return "/Parts ";
            case 208: return "/Forms ";
            case 209: return "/Filter ";
            case 210: return "/Form";
            case 211: return "/Pages ";
            case 212: return "/Root";
            case 213: return "/Pack";
            case 214: return "/Hex";
            case 215: return "/Run";
            case 216: return "/Back";
            case 217: return "<<";
            case 218: return ">>";
            case 219: return " R";
            case 220: return "/Notes ";
            case 221: return "/Lines ";
            case 222: return "/Fields ";
            default: return "";
        }
    }

    /** Keeps the DOCUMENTS as they are, so that a CHANGE can be taken back, also one that turns out to be REFUSED. */
    private void begin() {
        for (int k = 0; k < DOCUMENTS; k++) {
            past[changes * DOCUMENTS + k].take(docs[k]);
        }
    }

    private int end(int answer) {
        if (answer < 0) {
            bringPast();
        } else if (changes < MOST_CHANGES) {
            changes++;
        } else {
            forgetFirst();
        }
        return answer;
    }

    private void bringPast() {
        for (int k = 0; k < DOCUMENTS; k++) {
            docs[k].take(past[changes * DOCUMENTS + k]);
        }
    }

    private void forgetFirst() {
        for (int k = 0; k < DOCUMENTS; k++) {
            Doc first = past[k];
            for (int m = k; m + DOCUMENTS < past.length; m += DOCUMENTS) {
                past[m] = past[m + DOCUMENTS];
            }
            past[past.length - DOCUMENTS + k] = first;
        }
    }

    /** HOME, as the FILE that was just made by the writer tells it. */
    private void settleWritten(Doc doc, int file) {
        doc.homeText = store.add(files[file], files[file].length, false);
        doc.settle(file, writer.table);
        for (int n = 1; n <= OBJECTS; n++) {
            if (!walk.hasCome(n)) {
                doc.home[n] = 0;
            }
        }
    }

    private void tellObject(Doc doc, int n) {
        int id = doc.object[n];
        out.clear();
        if (id > 0) {
            out.addRange(store.signs, store.at(id), store.end(id));
            if (store.isStream(id)) {
                out.addWords(" data");
            }
        }
    }

    private void tellData(Doc doc, int n, boolean isText) {
        int id = doc.object[n];
        out.clear();
        if (!store.isStream(id)) {
            out.add('-');
        } else if (!isText) {
            out.addRange(store.signs, store.end(id), store.dataEnd(id));
        } else if (!tellText(doc, n, out)) {
            out.clear();
            out.add('-');
        }
    }

    private boolean tellText(Doc doc, int n, Text into) {
        int id = doc.object[n];
        return store.isStream(id)
                && sieve.textOf(store.signs, store.at(id), store.end(id), store.dataEnd(id), into);
    }

    /** Makes what is in made by a Filter, or leaves it without one; false, if it can not be. */
    private boolean isMadeBy(int filter) {
        if (filter == NONE) {
            return true;
        }
        boolean isMade = sieve.make(filter, made, undone);
        made.take(undone);
        return isMade;
    }

    private int marksOf(Doc doc, int page) {
        walk.list(doc);
        painter.paint(doc, walk, page);
        return painter.marks;
    }

    /** What is asked of the MARKS is of the PAGE that was painted last. */
    private int factOfPage(Doc doc, int page, int what) {
        switch (what) {
            case 0:
                return walk.pageAt(page);
            case 1:
            case 2:
            case 3:
            case 4:
                return walk.box(doc, page, what - 1);
            case 5:
                return walk.turn(doc, page);
            case 6:
                return painter.marks;
            case 7:
                return painter.fault;
            default:
                return editor.notes(doc, walk.pageAt(page));
        }
    }

    private int factOfDoc(Doc doc, int what) {
        switch (what) {
            case 0:
                return doc.count();
            case 1:
                walk.reach(doc);
                return walk.countReached();
            case 2:
                walk.list(doc);
                return walk.pages;
            case 3:
                return doc.root;
            case 4:
                return editor.titles(doc);
            case 5:
                return editor.fields(doc);
            case 6:
                return doc.hasLock ? 1 : 0;
            case 7:
                return doc.isUnlocked() ? 1 : 0;
            case 8:
                return doc.homeFile;
            default:
                return doc.hasLock ? doc.lets : 7;
        }
    }

    /** How many PAGES two DOCUMENTS have alike, from the first one on; both have their PAGES listed then. */
    private int pagesAlike(Doc doc, Doc other) {
        walk.list(doc);
        otherWalk.list(other);
        int both = Math.min(walk.pages, otherWalk.pages);
        for (int page = 0; page < both; page++) {
            painter.paint(doc, walk, page);
            painter.keepMarks();
            painter.paint(other, otherWalk, page);
            if (!isFrameAlike(doc, other, page) || !painter.areMarksAsKept()) {
                return page;
            }
        }
        return both;
    }

    private boolean isFrameAlike(Doc doc, Doc other, int page) {
        for (int k = 0; k < 4; k++) {
            if (walk.box(doc, page, k) != otherWalk.box(other, page, k)) {
                return false;
            }
        }
        return walk.turn(doc, page) == otherWalk.turn(other, page);
    }

    private boolean isDocSound(Doc doc) {
        if (!doc.has(doc.root) || !writer.writeWhole(doc, false, out)) {
            return true;
        }
        if (loader.load(out) != 0 || !isAllLoaded(doc)) {
            return false;
        }
        if (!loader.mend(out) || !isAllLoaded(doc)) {
            return false;
        }
        if (writer.writeWhole(doc, true, out) && (loader.load(out) != 0 || !isAllLoaded(doc))) {
            return false;
        }
        for (int n = 1; n <= OBJECTS; n++) {
            if (tellText(doc, n, made) && !isSifted()) {
                return false;
            }
        }
        return true;
    }

    /** Whether what was loaded is all that the walk has come to in the DOCUMENT, and nothing else. */
    private boolean isAllLoaded(Doc doc) {
        for (int n = 1; n <= OBJECTS; n++) {
            int due = walk.hasCome(n) ? doc.object[n] : 0;
            if (!store.isSame(due, loader.loaded.object[n])) {
                return false;
            }
        }
        return loader.loaded.root == doc.root;
    }

    private boolean isSifted() {
        for (int filter = HEX; filter <= BACK; filter++) {
            if (sieve.make(filter, made, out) && !(sieve.unmake(filter, out, undone) && undone.isSame(made))) {
                return false;
            }
        }
        return true;
    }

    private boolean isFlatSound(Doc doc) {
        editor.copy.take(doc);
        if (!doc.has(doc.root) || !editor.flatten(editor.copy)) {
            return true;
        }
        int alike = pagesAlike(doc, editor.copy);
        return alike == walk.pages && alike == otherWalk.pages;
    }

    private static long withText(long before, Text text) {
        long d = before * 31 + text.length;
        for (int k = 0; k < text.length && k < text.signs.length; k++) {
            d = d * 31 + text.signs[k];
        }
        return d;
    }

    private long withObjects(long before, Doc doc) {
        long d = before;
        for (int what = 0; what <= 9; what++) {
            d = d * 31 + factOfDoc(doc, what);
        }
        for (int n = 1; n <= OBJECTS; n++) {
            tellObject(doc, n);
            d = withText(d, out);
            tellData(doc, n, false);
            d = withText(d, out);
        }
        return d;
    }

    private long withPages(long before, Doc doc) {
        long d = before;
        walk.list(doc);
        for (int page = 0; page < walk.pages; page++) {
            painter.paint(doc, walk, page);
            for (int what = 0; what <= 8; what++) {
                d = d * 31 + factOfPage(doc, page, what);
            }
            for (int mark = 0; mark < painter.marks; mark++) {
                out.clear();
                painter.tellMark(mark, out);
                d = withText(d, out);
            }
            int notes = editor.notes(doc, walk.pageAt(page));
            for (int k = 0; k < notes; k++) {
                out.clear();
                editor.tellNote(doc, walk.pageAt(page), k, out);
                d = withText(d, out);
            }
        }
        return d;
    }

    private long withLines(long before, Doc doc) {
        long d = before;
        int titles = editor.titles(doc);
        walk.list(doc);
        for (int k = 0; k < titles; k++) {
            out.clear();
            editor.tellTitle(doc, k, out);
            d = withText(d, out);
        }
        return d;
    }

    // ---- the classes inside

    /** A row of signs that grows: it is made once, cleared and used again. */
    private static final class Text {
        byte[] signs;
        int length;

        Text(int room) {
            signs = new byte[room < 16 ? 16 : room];
        }

        void clear() {
            length = 0;
        }

        void add(int sign) {
            if (length >= signs.length) {
                signs = Arrays.copyOf(signs, 2 * length + 16);
            }
            signs[length] = (byte) sign;
            length++;
        }

        void addRange(byte[] from, int at, int to) {
            int more = to - at;
            if (at < 0 || more <= 0 || to > from.length) {
                return;
            }
            if (length + more > signs.length) {
                signs = Arrays.copyOf(signs, 2 * (length + more));
            }
            System.arraycopy(from, at, signs, length, more);
            length += more;
        }

        void addWords(String words) {
            int more = words.length();
            if (length + more > signs.length) {
                signs = Arrays.copyOf(signs, 2 * (length + more));
            }
            for (int k = 0; k < more; k++) {
                signs[length] = (byte) words.charAt(k);
                length++;
            }
        }

        void addNumber(int number) {
            if (length + 12 > signs.length) {
                signs = Arrays.copyOf(signs, 2 * (length + 12));
            }
            long left = number;
            if (left < 0) {
                signs[length] = '-';
                length++;
                left = -left;
            }
            int digits = 1;
            for (long rest = left / 10; rest > 0; rest /= 10) {
                digits++;
            }
            length += digits;
            for (int k = 1; k <= digits; k++) {
                signs[length - k] = (byte) ('0' + left % 10);
                left /= 10;
            }
        }

        void addPair(int first, int second) {
            addNumber(first);
            add(' ');
            addNumber(second);
        }

        void addRef(int n) {
            addNumber(n);
            addWords(" R");
        }

        void addName(long name) {
            if (length + 7 > signs.length) {
                signs = Arrays.copyOf(signs, 2 * (length + 7));
            }
            signs[length] = '/';
            length++;
            for (int shift = 40; shift >= 0; shift -= 8) {
                int letter = (int) (name >> shift) & 127;
                if (letter != 0) {
                    signs[length] = (byte) letter;
                    length++;
                }
            }
        }

        /** The WORD of a number from 0 to 999: five digits by 4 at most. */
        void addWord(int number) {
            boolean isBegun = false;
            for (int shift = 8; shift >= 0; shift -= 2) {
                int digit = number >> shift & 3;
                isBegun = isBegun || digit != 0 || shift == 0;
                if (isBegun) {
                    add('a' + digit);
                }
            }
        }

        /** A SIGN as it is WRITTEN in a STRING. */
        void addQuoted(int sign) {
            if (sign == '(' || sign == ')' || sign == '\\') {
                add('\\');
            }
            add(sign);
        }

        void take(Text other) {
            length = 0;
            addRange(other.signs, 0, other.length);
        }

        boolean hasAt(int at, Text other) {
            if (at < 0 || at + other.length > length) {
                return false;
            }
            for (int k = 0; k < other.length; k++) {
                if (signs[at + k] != other.signs[k]) {
                    return false;
                }
            }
            return true;
        }

        boolean isSame(Text other) {
            return length == other.length && hasAt(0, other);
        }
    }

    /**
     * Looks into VALUES as they are WRITTEN. A NAME is told as a number, a byte for each of its six letters, so that
     * these numbers rise as the texts do; 0 is none. A place is that of a sign, NONE without.
     */
    private static final class Values {
        static final long KIND = 0x4B696E640000L;
        static final long ROOT = 0x526F6F740000L;
        static final long PAGES = 0x506167657300L;
        static final long TREE = 0x547265650000L;
        static final long KIDS = 0x4B6964730000L;
        static final long PAGE = 0x506167650000L;
        static final long BOX = 0x426F78000000L;
        static final long TURN = 0x5475726E0000L;
        static final long FORMS = 0x466F726D7300L;
        static final long FORM = 0x466F726D0000L;
        static final long PARTS = 0x506172747300L;
        static final long FILTER = 0x46696C746572L;
        static final long HEX_NAME = 0x486578000000L;
        static final long RUN_NAME = 0x52756E000000L;
        static final long BACK_NAME = 0x4261636B0000L;
        static final long PACK = 0x5061636B0000L;
        static final long LEN = 0x4C656E000000L;
        static final long PREV = 0x507265760000L;
        static final long LOCK = 0x4C6F636B0000L;
        static final long CODE = 0x436F64650000L;
        static final long LETS = 0x4C6574730000L;
        static final long NOTES = 0x4E6F74657300L;
        static final long AT = 0x417400000000L;
        static final long SAY = 0x536179000000L;
        static final long LINES = 0x4C696E657300L;
        static final long DEEP = 0x446565700000L;
        static final long TITLE = 0x5469746C6500L;
        static final long TO = 0x546F00000000L;
        static final long FIELDS = 0x4669656C6473L;
        static final long MOST = 0x4D6F73740000L;
        static final long VALUE = 0x56616C756500L;

        /** The NAME of one letter, 0 "A" to 25 "Z". */
        static long letter(int letter) {
            return (long) ('A' + letter) << 40;
        }

        static int pass(byte[] t, int from, int end) {
            for (int at = from; at < end; at++) {
                if (t[at] != ' ' && t[at] != '\n') {
                    return at;
                }
            }
            return end;
        }

        static boolean isDigit(int sign) {
            return sign >= '0' && sign <= '9';
        }

        /** The place behind the VALUE at a place. */
        static int behind(byte[] t, int from, int end) {
            int deep = 0;
            boolean isInString = false;
            for (int at = from; at >= 0 && at < end; at++) {
                int sign = t[at];
                if (isInString) {
                    at += sign == '\\' ? 1 : 0;
                    isInString = sign != ')';
                } else if (sign == '(') {
                    isInString = true;
                } else if (sign == '[' || sign == '<') {
                    deep++;
                } else if (sign == ']' || sign == '>') {
                    deep--;
                }
                if (deep <= 0 && !isInString) {
                    int next = at + 1 < end ? t[at + 1] : ']';
                    boolean isRef = next == ' ' && at + 2 < end && t[at + 2] == 'R';
                    boolean isClosed = sign == ')' || sign == ']' || sign == '>';
                    if (isClosed || next == ']' || next == '>' || next == ' ' && !isRef) {
                        return at + 1;
                    }
                }
            }
            return end;
        }

        static boolean isAt(byte[] t, int at, int end, char first) {
            return at >= 0 && at < end && t[at] == first;
        }

        /** The NAME at a place, 0 if there is none. */
        static long nameAt(byte[] t, int at, int end) {
            if (at < 0 || at >= end || t[at] != '/') {
                return 0;
            }
            long name = 0;
            for (int k = 1; k <= 6 && at + k < end && (t[at + k] | 32) >= 'a' && (t[at + k] | 32) <= 'z'; k++) {
                name |= (long) t[at + k] << (48 - 8 * k);
            }
            return name;
        }

        static boolean isInteger(byte[] t, int at, int end) {
            return at >= 0 && at < end && (t[at] == '-' || isDigit(t[at])) && refAt(t, at, end) == 0;
        }

        static int integerAt(byte[] t, int at, int end) {
            boolean isBelow = at >= 0 && at < end && t[at] == '-';
            int number = 0;
            for (int k = isBelow ? at + 1 : at; k >= 0 && k < end && t[k] >= '0' && t[k] <= '9'; k++) {
                number = number * 10 + t[k] - '0';
            }
            return isBelow ? -number : number;
        }

        /** The number of the OBJECT to which a REF at a place leads, 0 if there is no REF. */
        static int refAt(byte[] t, int at, int end) {
            if (at < 0) {
                return 0;
            }
            int number = 0;
            for (int k = at; k + 1 < end; k++) {
                if (t[k] == ' ') {
                    return t[k + 1] == 'R' && number <= OBJECTS ? number : 0;
                }
                if (t[k] < '0' || t[k] > '9') {
                    return 0;
                }
                number = number * 10 + t[k] - '0';
            }
            return 0;
        }

        /** The place of the VALUE that the BOOK at a place has by its k-th NAME. */
        static int entryAt(byte[] t, int book, int end, int k) {
            if (book < 0 || book >= end || t[book] != '<') {
                return NONE;
            }
            int at = book + 2;
            for (int passed = 0; passed <= k && at < end && t[at] == '/'; passed++) {
                at = behind(t, at + 1, end) + 1;
                if (passed == k) {
                    return at < end ? at : NONE;
                }
                at = behind(t, at, end) + 1;
            }
            return NONE;
        }

        /** The place of the VALUE that the BOOK at a place has by a NAME. */
        static int entry(byte[] t, int book, int end, long name) {
            if (book < 0 || book >= end || t[book] != '<') {
                return NONE;
            }
            int at = book + 2;
            for (int passed = 0; passed < MOST_NAMES && at < end && t[at] == '/'; passed++) {
                long found = nameAt(t, at, end);
                at = behind(t, at + 1, end) + 1;
                if (found == name) {
                    return at < end ? at : NONE;
                }
                at = behind(t, at, end) + 1;
            }
            return NONE;
        }

        /** The place of the k-th VALUE of the ROW at a place. */
        static int itemAt(byte[] t, int row, int end, int k) {
            if (row < 0 || row + 1 >= end || t[row] != '[' || t[row + 1] == ']') {
                return NONE;
            }
            int at = row + 1;
            for (int passed = 0; passed < k && at < end; passed++) {
                at = behind(t, at, end);
                if (at >= end || t[at] != ' ') {
                    return NONE;
                }
                at++;
            }
            return at < end ? at : NONE;
        }

        /** The place of the VALUE behind that at a place, in the same ROW. */
        static int nextItem(byte[] t, int item, int end) {
            int at = item < 0 ? end : behind(t, item, end);
            return at + 1 < end && t[at] == ' ' ? at + 1 : NONE;
        }

        /** How many VALUES a ROW has. */
        static int items(byte[] t, int row, int end) {
            int item = itemAt(t, row, end, 0);
            int many = 0;
            for (; many < MOST_VALUES && item >= 0; many++) {
                item = nextItem(t, item, end);
            }
            return many;
        }

        static boolean isBox(byte[] t, int at, int end) {
            for (int k = 0; k < 4; k++) {
                int item = itemAt(t, at, end, k);
                int number = integerAt(t, item, end);
                if (!isInteger(t, item, end) || k >= 2 && (number < 1 || number > 40)) {
                    return false;
                }
            }
            return itemAt(t, at, end, 4) < 0;
        }

        /** Puts the SIGNS of the STRING at a place behind a text. */
        static void addString(byte[] t, int from, int end, Text into) {
            for (int at = from + 1; at < end && t[at] != ')'; at++) {
                at += t[at] == '\\' ? 1 : 0;
                if (at < end) {
                    into.add(t[at]);
                }
            }
        }

        /**
         * Puts a BOOK behind a text with another VALUE by a NAME (without that NAME, if the VALUE is null or ""), and
         * tells how many NAMES it has then. What is no BOOK counts as an empty one.
         */
        static int addBookWith(byte[] t, int book, int end, long name, Text value, Text into) {
            boolean isTold = value == null || value.length == 0;
            int names = 0;
            int at = isAt(t, book, end, '<') ? book + 2 : end;
            into.addWords("<<");
            // a BOOK that is being changed may have too many NAMES for a while
            for (int passed = 0; passed < 2 * MOST_NAMES; passed++) {
                long found = nameAt(t, at, end);
                if (!isTold && value != null && (found == 0 || found >= name)) {
                    into.addWords(names > 0 ? " " : "");
                    into.addName(name);
                    into.add(' ');
                    into.addRange(value.signs, 0, value.length);
                    isTold = true;
                    names++;
                }
                if (found == 0) {
                    break;
                }
                int next = behind(t, at + 1, end);
                next = behind(t, next + 1, end);
                if (found != name) {
                    into.addWords(names > 0 ? " " : "");
                    into.addRange(t, at, next);
                    names++;
                }
                at = next + 1;
            }
            into.addWords(">>");
            return names;
        }
    }

    /**
     * READS one VALUE from a place on, and makes of it what is WRITTEN. ROWS and BOOKS that are begun lie on a pile,
     * so that a VALUE needs no call in a call.
     */
    private static final class Reader {
        private static final int IS_BOOK = -1;
        /** An entry of a BOOK takes three SIGNS at least. */
        private static final int MOST_ENTRIES = MOST_FILE / 3 + 1;

        final Text out = new Text(2 * MOST_FILE);
        int fault = NONE;
        int number;
        boolean isRef;
        private final Text sorted = new Text(MOST_FILE);
        private byte[] text = new byte[0];
        private int end;
        private long name;
        private int depth;
        private final int[] begins = new int[MOST_DEEP];
        private final int[] outBegins = new int[MOST_DEEP];
        private final int[] many = new int[MOST_DEEP];
        private final int[] firstEntry = new int[MOST_DEEP];
        private final long[] entryName = new long[MOST_ENTRIES];
        private final int[] entryBegin = new int[MOST_ENTRIES];
        private int entries;

        /** Tells the place behind the VALUE, NONE if there is a FAULT. */
        int readValue(byte[] source, int from, int to) {
            text = source;
            end = to < source.length ? to : source.length;
            out.clear();
            depth = 0;
            entries = 0;
            fault = NONE;
            int at = from < 0 ? end : from;
            for (int left = end - at; left >= 0; left--) {
                at = Values.pass(text, at, end);
                if (isClosing(at)) {
                    at = many[depth - 1] == IS_BOOK ? closeBook(at) : closeRow(at);
                } else {
                    at = lead(at);
                    at = at < 0 ? NONE : beginValue(at);
                }
                if (at < 0 || depth == 0) {
                    return at;
                }
            }
            return refuse(end);
        }

        private int refuse(int place) {
            fault = place;
            return NONE;
        }

        private boolean isClosing(int at) {
            return depth > 0 && at < end && text[at] == (many[depth - 1] == IS_BOOK ? '>' : ']');
        }

        private int closeRow(int at) {
            out.add(']');
            depth--;
            return at + 1;
        }

        /** Entries lie behind each other as they were met: only here it is known which of them count. */
        private int closeBook(int at) {
            if (at + 1 >= end || text[at + 1] != '>') {
                return refuse(at + 1);
            }
            int first = firstEntry[depth - 1];
            int names = 0;
            long last = 0;
            sorted.clear();
            for (int k = first; k < entries && names <= MOST_NAMES; k++) {
                int next = nextEntry(first, last);
                if (next < 0) {
                    break;
                }
                last = entryName[next];
                int begin = entryBegin[next];
                if (out.signs[begin] != 'n') {
                    sorted.addWords(names > 0 ? " " : "");
                    sorted.addName(last);
                    sorted.add(' ');
                    sorted.addRange(out.signs, begin, next + 1 < entries ? entryBegin[next + 1] : out.length);
                    names++;
                }
            }
            if (names > MOST_NAMES) {
                return refuse(begins[depth - 1]);
            }
            depth--;
            out.length = outBegins[depth];
            out.addWords("<<");
            out.addRange(sorted.signs, 0, sorted.length);
            out.addWords(">>");
            entries = first;
            return at + 2;
        }

        /** Of the entries from the first one on, the latest one of the NAME that comes next above the last one. */
        private int nextEntry(int first, long last) {
            int next = NONE;
            for (int k = first; k < entries; k++) {
                if (entryName[k] > last && (next < 0 || entryName[k] <= entryName[next])) {
                    next = k;
                }
            }
            return next;
        }

        /** Does what stands ahead of a VALUE: in a BOOK its NAME, in a ROW a BLANK. */
        private int lead(int from) {
            if (depth == 0) {
                return from;
            }
            int at = from;
            int top = depth - 1;
            if (many[top] == IS_BOOK) {
                if (at >= end || text[at] != '/') {
                    return refuse(at);
                }
                at = behindName(at);
                if (at < 0 || entries >= MOST_ENTRIES) {
                    return NONE;
                }
                entryName[entries] = name;
                entryBegin[entries] = out.length;
                entries++;
                return Values.pass(text, at, end);
            }
            if (at < end && canBegin(text[at])) {
                if (many[top] == MOST_VALUES) {
                    return refuse(begins[top]);
                }
                if (many[top] > 0) {
                    out.add(' ');
                }
                many[top]++;
            }
            return at;
        }

        private static boolean canBegin(int sign) {
            return sign >= '0' && sign <= '9' || sign == '-' || sign == '/' || sign == '(' || sign == '['
                    || sign == '<' || sign == 'n' || sign == 't' || sign == 'f';
        }

        private int beginValue(int at) {
            int sign = at < end ? text[at] : NONE;
            int behind;
            if (sign == '[' || sign == '<') {
                behind = pile(at);
                if (behind >= 0 && sign == '[') {
                    out.add('[');
                }
                return behind;
            }
            if (sign == '-' || sign >= '0' && sign <= '9') {
                behind = behindNumber(at);
                out.addNumber(number);
                out.addWords(isRef ? " R" : "");
                return behind;
            }
            switch (sign) {
                case '(':
                    behind = behindString(at);
                    break;
                case '/':
                    behind = behindName(at);
                    break;
                case 'n':
                    behind = behindWord(at, "null");
                    break;
                case 't':
                    behind = behindWord(at, "true");
                    break;
                case 'f':
                    behind = behindWord(at, "false");
                    break;
                default:
                    return refuse(at);
            }
            out.addRange(text, at, behind);
            return behind;
        }

        private int pile(int at) {
            if (depth >= MOST_DEEP) {
                fault = at;
                return NONE;
            }
            boolean isBook = text[at] == '<';
            if (isBook && (at + 1 >= end || text[at + 1] != '<')) {
                fault = at + 1;
                return NONE;
            }
            begins[depth] = at;
            outBegins[depth] = out.length;
            many[depth] = isBook ? IS_BOOK : 0;
            firstEntry[depth] = entries;
            depth++;
            return isBook ? at + 2 : at + 1;
        }

        private int behindWord(int at, String word) {
            for (int k = 0; k < word.length(); k++) {
                if (at + k >= end || text[at + k] != word.charAt(k)) {
                    fault = at + k;
                    return NONE;
                }
            }
            return at + word.length();
        }

        private int behindNumber(int at) {
            boolean isBelow = text[at] == '-';
            int first = isBelow ? at + 1 : at;
            int behind = first;
            int read = 0;
            isRef = false;
            for (; behind < end && text[behind] >= '0' && text[behind] <= '9'; behind++) {
                if (behind - first == 4) {
                    fault = at;
                    return NONE;
                }
                read = read * 10 + text[behind] - '0';
            }
            if (behind == first) {
                fault = behind;
                return NONE;
            }
            number = isBelow ? -read : read;
            if (!isBelow && read >= 1 && read <= OBJECTS) {
                int next = behind;
                for (; next < end && text[next] == ' '; next++) {
                    // only BLANKS may stand between
                }
                isRef = next > behind && next < end && text[next] == 'R';
                behind = isRef ? next + 1 : behind;
            }
            return behind;
        }

        private int behindName(int at) {
            int behind = at + 1;
            name = 0;
            for (; behind < end && (text[behind] | 32) >= 'a' && (text[behind] | 32) <= 'z'; behind++) {
                int letters = behind - at;
                if (letters > 6) {
                    fault = at;
                    return NONE;
                }
                name |= (long) text[behind] << (48 - 8 * letters);
            }
            if (behind == at + 1) {
                fault = behind;
                return NONE;
            }
            return behind;
        }

        private int behindString(int at) {
            int signs = 0;
            for (int k = at + 1; k < end; k++) {
                int sign = text[k];
                if (sign == ')') {
                    return k + 1;
                }
                if (sign == '\\') {
                    k++;
                    sign = k < end ? text[k] : NONE;
                    if (sign != '(' && sign != ')' && sign != '\\') {
                        fault = k;
                        return NONE;
                    }
                } else if (sign == '(' || sign == '\n') {
                    fault = k;
                    return NONE;
                }
                if (signs == MOST_STRING) {
                    fault = at;
                    return NONE;
                }
                signs++;
            }
            fault = end;
            return NONE;
        }
    }

    /** The three filters: what DATA is made of a TEXT, and TEXT of DATA. */
    private static final class Sieve {
        private static final int MOST_FILTERS = 3;

        private final Text spare = new Text(MOST_DATA);

        /** Undoes the Filters of a STREAM of which BOOK and DATA stand behind each other; false, if it is BROKEN. */
        boolean textOf(byte[] signs, int book, int end, int dataEnd, Text into) {
            into.clear();
            into.addRange(signs, end, dataEnd);
            int filter = Values.entry(signs, book, end, Values.FILTER);
            if (filter < 0) {
                return true;
            }
            boolean isRow = Values.isAt(signs, filter, end, '[');
            for (int k = 0; k <= MOST_FILTERS; k++) {
                int item = isRow ? Values.itemAt(signs, filter, end, k) : k == 0 ? filter : NONE;
                if (item < 0) {
                    return true;
                }
                int kind = k < MOST_FILTERS ? filterOf(Values.nameAt(signs, item, end)) : NONE;
                spare.clear();
                boolean isDone = kind == HEX && unmakeHex(into, spare) || kind == RUN && unmakeRun(into, spare)
                        || kind == BACK && unmakeBack(into, spare);
                if (!isDone) {
                    return false;
                }
                into.take(spare);
            }
            return false;
        }

        private static int filterOf(long name) {
            if (name == Values.HEX_NAME) {
                return HEX;
            }
            if (name == Values.RUN_NAME) {
                return RUN;
            }
            return name == Values.BACK_NAME ? BACK : NONE;
        }

        /** False, if it would be too long. */
        boolean make(int filter, Text from, Text into) {
            into.clear();
            if (filter == HEX) {
                makeHex(from, into);
            } else if (filter == RUN) {
                makeRun(from, into);
            } else {
                makeBack(from, into);
            }
            return into.length <= MOST_DATA;
        }

        /** False, if it is BROKEN. */
        boolean unmake(int filter, Text from, Text into) {
            into.clear();
            if (filter == HEX) {
                return unmakeHex(from, into);
            }
            return filter == RUN ? unmakeRun(from, into) : unmakeBack(from, into);
        }

        private void makeHex(Text from, Text into) {
            for (int k = 0; k < from.length; k++) {
                into.add(digitOf(from.signs[k] >> 4));
                into.add(digitOf(from.signs[k] & 15));
            }
            into.add('>');
        }

        private static int digitOf(int value) {
            return value < 10 ? '0' + value : 'a' + value - 10;
        }

        private static int valueOfDigit(int sign) {
            if (sign >= '0' && sign <= '9') {
                return sign - '0';
            }
            int letter = sign | 32;
            return letter >= 'a' && letter <= 'f' ? letter - 'a' + 10 : NONE;
        }

        private boolean unmakeHex(Text from, Text into) {
            int high = NONE;
            for (int at = 0; at < from.length; at++) {
                int sign = from.signs[at];
                boolean isLast = sign == '>';
                if (isLast && high < 0) {
                    return true;
                }
                int low = isLast ? 0 : valueOfDigit(sign);
                if (low < 0 && sign != ' ' && sign != '\n') {
                    return false;
                }
                if (high >= 0 && low >= 0) {
                    if (!isSign(high * 16 + low) || into.length >= MOST_DATA) {
                        return false;
                    }
                    into.add(high * 16 + low);
                    high = NONE;
                } else {
                    high = low < 0 ? high : low;
                }
                if (isLast) {
                    return true;
                }
            }
            return false;
        }

        /** How often, up to 9 times, the SIGN at a place stands there. */
        private static int alikeFrom(Text from, int at) {
            for (int many = 1; many < 9; many++) {
                if (at + many >= from.length || from.signs[at + many] != from.signs[at]) {
                    return many;
                }
            }
            return 9;
        }

        private void makeRun(Text from, Text into) {
            int many;
            for (int at = 0; at < from.length; at += many) {
                int sign = from.signs[at];
                int alike = alikeFrom(from, at);
                many = alike < 3 ? 1 : alike;
                if (many > 1 || sign == '~') {
                    into.add('~');
                    into.add('0' + many);
                }
                into.add(sign);
            }
        }

        private boolean unmakeRun(Text from, Text into) {
            for (int at = 0; at < from.length; at++) {
                int many = 1;
                if (from.signs[at] == '~') {
                    many = at + 2 < from.length ? from.signs[at + 1] - '0' : 0;
                    if (many < 1 || many > 9) {
                        return false;
                    }
                    at += 2;
                }
                for (int k = 0; k < many; k++) {
                    into.add(from.signs[at]);
                }
                if (into.length > MOST_DATA) {
                    return false;
                }
            }
            return true;
        }

        /** How many SIGNS from a place on, up to 9, stand already so far back. */
        private static int alikeBack(Text from, int at, int back) {
            for (int many = 0; many < 9; many++) {
                if (at + many >= from.length || from.signs[at + many] != from.signs[at + many - back]) {
                    return many;
                }
            }
            return 9;
        }

        private void makeBack(Text from, Text into) {
            for (int at = 0; at < from.length; at++) {
                int best = 0;
                int many = 2;
                for (int back = 1; back <= 9 && back <= at; back++) {
                    int found = alikeBack(from, at, back);
                    if (found > many) {
                        many = found;
                        best = back;
                    }
                }
                if (best > 0) {
                    into.add('^');
                    into.add('0' + best);
                    into.add('0' + many);
                    at += many - 1;
                } else {
                    into.add(from.signs[at]);
                    into.addWords(from.signs[at] == '^' ? "00" : "");
                }
            }
        }

        private boolean unmakeBack(Text from, Text into) {
            for (int at = 0; at < from.length; at++) {
                boolean isPlain = from.signs[at] != '^';
                if (!isPlain && at + 2 >= from.length) {
                    return false;
                }
                int back = isPlain ? 0 : from.signs[at + 1] - '0';
                int many = isPlain ? 0 : from.signs[at + 2] - '0';
                if (back == 0 && many == 0) {
                    into.add(from.signs[at]);
                } else if (back < 1 || back > 9 || many < 1 || many > 9 || back > into.length) {
                    return false;
                }
                for (int k = 0; k < many; k++) {
                    into.add(into.signs[into.length - back]);
                }
                at += isPlain ? 0 : 2;
                if (into.length > MOST_DATA) {
                    return false;
                }
            }
            return true;
        }
    }

    /**
     * Keeps the texts of OBJECTS and FILES as blocks behind each other, which never change and are shared by all
     * DOCUMENTS that have them. What no holder has is swept away as room is needed.
     */
    private static final class Store {
        byte[] signs = new byte[8 * MOST_FILE];
        private final Doc[] holders;
        private int used;
        private int[] start = new int[1024];
        private int[] size = new int[1024];
        private int[] valueSize = new int[1024];
        private int[] streamed = new int[1024];
        private int[] live = new int[1024];
        /** The blocks as they stand behind each other. */
        private int[] order = new int[1024];
        private int blocks;
        private int[] spares = new int[1024];
        private int spare;

        Store(Doc[] holders) {
            this.holders = holders;
            for (int id = start.length - 1; id > 0; id--) {
                spares[spare] = id;
                spare++;
            }
        }

        /** A block of a text: first the VALUE, or the BOOK of a STREAM, so long as told, then DATA. */
        int add(Text text, int valueLength, boolean isStream) {
            if (used + text.length > signs.length || spare == 0) {
                tidy(text.length);
            }
            spare--;
            int id = spares[spare];
            start[id] = used;
            size[id] = text.length;
            valueSize[id] = valueLength;
            streamed[id] = isStream ? 1 : 0;
            order[blocks] = id;
            blocks++;
            System.arraycopy(text.signs, 0, signs, used, text.length);
            used += text.length;
            return id;
        }

        /** Room grows as soon as most of it is taken by what stays, so that it is not swept too often. */
        private void tidy(int more) {
            Arrays.fill(live, 0);
            for (int k = 0; k < holders.length; k++) {
                live[holders[k].homeText] = 1;
                for (int n = 1; n <= OBJECTS; n++) {
                    live[holders[k].object[n]] = 1;
                    live[holders[k].home[n]] = 1;
                }
            }
            int kept = 0;
            used = 0;
            for (int k = 0; k < blocks; k++) {
                int id = order[k];
                if (live[id] == 0) {
                    spares[spare] = id;
                    spare++;
                } else {
                    System.arraycopy(signs, start[id], signs, used, size[id]);
                    start[id] = used;
                    used += size[id];
                    order[kept] = id;
                    kept++;
                }
            }
            blocks = kept;
            if (4 * (used + more) > 3 * signs.length) {
                signs = Arrays.copyOf(signs, 2 * (signs.length + more));
            }
            if (2 * spare < start.length) {
                growTables(2 * start.length);
            }
        }

        private void growTables(int length) {
            int first = start.length;
            start = Arrays.copyOf(start, length);
            size = Arrays.copyOf(size, length);
            valueSize = Arrays.copyOf(valueSize, length);
            streamed = Arrays.copyOf(streamed, length);
            live = Arrays.copyOf(live, length);
            order = Arrays.copyOf(order, length);
            spares = Arrays.copyOf(spares, length);
            for (int id = first; id < length; id++) {
                spares[spare] = id;
                spare++;
            }
        }

        int at(int id) {
            return start[id];
        }

        /** Behind the VALUE, or the BOOK of a STREAM. */
        int end(int id) {
            return start[id] + valueSize[id];
        }

        int dataEnd(int id) {
            return start[id] + size[id];
        }

        boolean isStream(int id) {
            return id > 0 && streamed[id] == 1;
        }

        boolean isBook(int id) {
            return id > 0 && streamed[id] == 0 && size[id] > 0 && signs[start[id]] == '<';
        }

        /** The place of the VALUE that a BOOK, or that of a STREAM, has by a NAME. */
        int entryOf(int id, long name) {
            return id > 0 ? Values.entry(signs, start[id], end(id), name) : NONE;
        }

        long kindOf(int id) {
            return id > 0 ? Values.nameAt(signs, Values.entry(signs, start[id], end(id), Values.KIND), used) : 0;
        }

        boolean isSame(int a, int b) {
            if (a == b || a <= 0 || b <= 0) {
                return a == b;
            }
            if (size[a] != size[b] || valueSize[a] != valueSize[b] || streamed[a] != streamed[b]) {
                return false;
            }
            for (int k = 0; k < size[a]; k++) {
                if (signs[start[a] + k] != signs[start[b] + k]) {
                    return false;
                }
            }
            return true;
        }

        boolean isText(int id, Text text) {
            if (id <= 0 || size[id] != text.length) {
                return false;
            }
            for (int k = 0; k < text.length; k++) {
                if (signs[start[id] + k] != text.signs[k]) {
                    return false;
                }
            }
            return true;
        }
    }

    /** A DOCUMENT: the blocks of its OBJECTS (0 is none), its ROOT, LOCK and HOME. */
    private static final class Doc {
        final int[] object = new int[OBJECTS + 1];
        final int[] home = new int[OBJECTS + 1];
        int root = 1;
        int homeFile = NONE;
        int homeText;
        /** Where the newest TABLE of HOME begins. */
        int homeTable;
        boolean hasLock;
        int code;
        int lets;
        boolean isOpen;
        private boolean hadLock;
        private int hadCode;
        private int hadLets;

        void clear() {
            Arrays.fill(object, 0);
            Arrays.fill(home, 0);
            root = 1;
            homeFile = NONE;
            homeText = 0;
            homeTable = 0;
            hasLock = false;
            code = 0;
            lets = 0;
            isOpen = false;
            hadLock = false;
            hadCode = 0;
            hadLets = 0;
        }

        void take(Doc other) {
            System.arraycopy(other.object, 0, object, 0, object.length);
            System.arraycopy(other.home, 0, home, 0, home.length);
            root = other.root;
            homeFile = other.homeFile;
            homeText = other.homeText;
            homeTable = other.homeTable;
            hasLock = other.hasLock;
            code = other.code;
            lets = other.lets;
            isOpen = other.isOpen;
            hadLock = other.hadLock;
            hadCode = other.hadCode;
            hadLets = other.hadLets;
        }

        /** HOME becomes a FILE that has just what the DOCUMENT has. */
        void settle(int file, int table) {
            System.arraycopy(object, 0, home, 0, home.length);
            homeFile = file;
            homeTable = table;
            hadLock = hasLock;
            hadCode = code;
            hadLets = lets;
        }

        boolean isLockAsAtHome() {
            return hasLock == hadLock && (!hasLock || code == hadCode && lets == hadLets);
        }

        boolean has(int n) {
            return n >= 1 && n <= OBJECTS && object[n] != 0;
        }

        int count() {
            int many = 0;
            for (int n = 1; n <= OBJECTS; n++) {
                many += object[n] != 0 ? 1 : 0;
            }
            return many;
        }

        /** The smallest number above another one that no OBJECT has, 0 if none is left. */
        int freeAbove(int last) {
            for (int n = last + 1; n <= OBJECTS; n++) {
                if (object[n] == 0) {
                    return n;
                }
            }
            return 0;
        }

        boolean isUnlocked() {
            return !hasLock || isOpen;
        }

        boolean letsChange(int what) {
            return isUnlocked() || (lets >> what & 1) == 1;
        }
    }

    /** Goes through a DOCUMENT: what can be come to in it, and its PAGES with what they have. */
    private static final class Walk {
        private static final int MOST_TREES = 6;

        int pages;
        private final Store store;
        private final int[] page = new int[OBJECTS + 1];
        /** Of each PAGE the OBJECT, itself or a TREE, that has the BOX, TURN and FORMS it has; 0 is none. */
        private final int[] boxFrom = new int[OBJECTS + 1];
        private final int[] turnFrom = new int[OBJECTS + 1];
        private final int[] formsFrom = new int[OBJECTS + 1];
        private final boolean[] isSeen = new boolean[OBJECTS + 1];
        private final boolean[] isCome = new boolean[OBJECTS + 1];
        private final int[] todo = new int[OBJECTS + 1];
        private int many;

        Walk(Store store) {
            this.store = store;
        }

        void list(Doc doc) {
            pages = 0;
            for (int n = 0; n <= OBJECTS; n++) {
                isSeen[n] = false;
            }
            if (doc.has(doc.root)) {
                int first = Values.refAt(store.signs, store.entryOf(doc.object[doc.root], Values.PAGES), store.used);
                visit(doc, first, 1, 0, 0, 0);
            }
        }

        private void visit(Doc doc, int n, int deep, int box, int turn, int forms) {
            if (deep > MOST_TREES || !doc.has(n) || isSeen[n]) {
                return;
            }
            isSeen[n] = true;
            int id = doc.object[n];
            long kind = store.isBook(id) ? store.kindOf(id) : 0;
            if (kind != Values.TREE && kind != Values.PAGE) {
                return;
            }
            int ownBox = Values.isBox(store.signs, store.entryOf(id, Values.BOX), store.used) ? n : box;
            int ownTurn = Values.isInteger(store.signs, store.entryOf(id, Values.TURN), store.used) ? n : turn;
            int ownForms = Values.isAt(store.signs, store.entryOf(id, Values.FORMS), store.used, '<') ? n : forms;
            if (kind == Values.PAGE) {
                page[pages] = n;
                boxFrom[pages] = ownBox;
                turnFrom[pages] = ownTurn;
                formsFrom[pages] = ownForms;
                pages++;
                return;
            }
            int kid = Values.itemAt(store.signs, store.entryOf(id, Values.KIDS), store.used, 0);
            for (int k = 0; k < MOST_VALUES && kid >= 0; k++) {
                visit(doc, Values.refAt(store.signs, kid, store.used), deep + 1, ownBox, ownTurn, ownForms);
                kid = Values.nextItem(store.signs, kid, store.used);
            }
        }

        int pageAt(int k) {
            return k >= 0 && k < pages ? page[k] : 0;
        }

        /** Which PAGE an OBJECT is, NONE if it is none. */
        int pageOf(int n) {
            for (int k = 0; k < pages; k++) {
                if (page[k] == n) {
                    return k;
                }
            }
            return NONE;
        }

        /** x, y, w or h (k 0 to 3) of the BOX of a PAGE. */
        int box(Doc doc, int k, int which) {
            if (boxFrom[k] == 0) {
                return which < 2 ? 0 : 20;
            }
            int id = doc.object[boxFrom[k]];
            int box = Values.entry(store.signs, store.at(id), store.end(id), Values.BOX);
            return Values.integerAt(store.signs, Values.itemAt(store.signs, box, store.used, which), store.used);
        }

        int turn(Doc doc, int k) {
            if (turnFrom[k] == 0) {
                return 0;
            }
            int turn = store.entryOf(doc.object[turnFrom[k]], Values.TURN);
            return Math.floorMod(Values.integerAt(store.signs, turn, store.used), 4);
        }

        /** The place of the BOOK of FORMS of a PAGE, NONE without. */
        int forms(Doc doc, int k) {
            return formsFrom[k] == 0 ? NONE : store.entryOf(doc.object[formsFrom[k]], Values.FORMS);
        }

        void reach(Doc doc) {
            startReach();
            come(doc, doc.root);
            spread(doc);
        }

        void reachFromPages(Doc doc) {
            startReach();
            for (int k = 0; k < pages; k++) {
                come(doc, page[k]);
            }
            spread(doc);
        }

        private void startReach() {
            many = 0;
            for (int n = 0; n <= OBJECTS; n++) {
                isCome[n] = false;
            }
        }

        private void come(Doc doc, int n) {
            if (doc.has(n) && !isCome[n]) {
                isCome[n] = true;
                todo[many] = n;
                many++;
            }
        }

        private void spread(Doc doc) {
            for (int k = 0; k < many; k++) {
                int id = doc.object[todo[k]];
                int end = store.end(id);
                boolean isInString = false;
                boolean isInNumber = false;
                for (int at = store.at(id); at < end; at++) {
                    int sign = store.signs[at];
                    if (isInString) {
                        at += sign == '\\' ? 1 : 0;
                        isInString = sign != ')';
                    } else if (sign == '(') {
                        isInString = true;
                    } else if (Values.isDigit(sign) && !isInNumber) {
                        come(doc, Values.refAt(store.signs, at, end));
                    }
                    isInNumber = !isInString && Values.isDigit(sign);
                }
            }
        }

        boolean hasCome(int n) {
            return n >= 1 && n <= OBJECTS && isCome[n];
        }

        int countReached() {
            return many;
        }
    }

    /** Does the CONTENT of a PAGE: its MARKS, and what is asked of them. */
    private static final class Painter {
        private static final int MOST_MARKS = 24;
        private static final int MOST_FORMS = 64;
        private static final int MOST_LEVELS = 4;
        private static final int MOST_HEAP = 8;
        private static final int MOST_KEPT = 8;
        /** Far above the SIGNS that a CONTENT and 64 FORMS can have. */
        private static final int MOST_STEPS = 1000000;
        private static final int INTEGER = 1;
        private static final int STRING = 2;
        private static final int NAME = 3;
        private static final int SCALE = 0;
        private static final int ORIGIN = 1;
        private static final int CLIP = 3;
        private static final int SIZE = 7;
        private static final int PEN = 8;
        private static final int ALL_FIVE = 10;
        private static final int MARK = 5;

        int marks;
        int fault;
        private final Store store;
        private final Sieve sieve;
        private final Reader reader;
        /** A CONTENT, and the FORMS in it by how deep they are. */
        private final Text[] text = new Text[MOST_LEVELS + 1];
        private final int[] place = new int[MOST_LEVELS + 1];
        private final int[][] heap = new int[MOST_LEVELS + 1][MOST_HEAP];
        private final int[][] heapKind = new int[MOST_LEVELS + 1][MOST_HEAP];
        private final int[] heaped = new int[MOST_LEVELS + 1];
        private final int[][] kept = new int[MOST_LEVELS + 1][MOST_KEPT * ALL_FIVE];
        private final int[] keeps = new int[MOST_LEVELS + 1];
        private final int[][] ahead = new int[MOST_LEVELS + 1][ALL_FIVE];
        /** SCALE, ORIGIN x y, CLIP x y w h, SIZE, PEN x y. */
        private final int[] now = new int[ALL_FIVE];
        private final int[] box = new int[4];
        /** What a rectangle has in common with the CLIP. */
        private final int[] both = new int[4];
        /** Of each MARK its SIGN (0 of a B), x, y, w, h. */
        private final int[] mark = new int[MOST_MARKS * MARK];
        private final int[] oldMark = new int[MOST_MARKS * MARK];
        private int oldMarks;
        private int level;
        private int begun;

        Painter(Store store, Sieve sieve, Reader reader) {
            this.store = store;
            this.sieve = sieve;
            this.reader = reader;
            text[0] = new Text(MOST_VALUES * (MOST_DATA + 1));
            for (int k = 1; k <= MOST_LEVELS; k++) {
                text[k] = new Text(MOST_DATA);
            }
        }

        void tellContent(Doc doc, int page, Text into) {
            into.clear();
            int parts = doc.has(page) ? store.entryOf(doc.object[page], Values.PARTS) : NONE;
            boolean isRow = Values.isAt(store.signs, parts, store.used, '[');
            int part = isRow ? Values.itemAt(store.signs, parts, store.used, 0) : parts;
            for (int k = 0; k < MOST_VALUES && part >= 0; k++) {
                int n = Values.refAt(store.signs, part, store.used);
                int id = doc.has(n) ? doc.object[n] : 0;
                if (k > 0) {
                    into.add('\n');
                }
                if (store.isStream(id)
                        && sieve.textOf(store.signs, store.at(id), store.end(id), store.dataEnd(id), text[1])) {
                    into.addRange(text[1].signs, 0, text[1].length);
                }
                part = isRow ? Values.nextItem(store.signs, part, store.used) : NONE;
            }
        }

        void paint(Doc doc, Walk walk, int page) {
            tellContent(doc, walk.pageAt(page), text[0]);
            start(doc, walk, page);
            for (int left = MOST_STEPS; left > 0 && level >= 0; left--) {
                Text content = text[level];
                int at = Values.pass(content.signs, place[level], content.length);
                if (at >= content.length) {
                    leave();
                    continue;
                }
                int sign = content.signs[at];
                place[level] = at + 1;
                boolean isDone;
                if (sign == '(' || sign == '/' || sign == '-' || Values.isDigit(sign)) {
                    isDone = lay(content, at, sign);
                } else if (sign == 'X') {
                    isDone = beginForm(doc, walk.forms(doc, page));
                } else {
                    isDone = order(sign);
                }
                if (!isDone) {
                    fault = level == 0 ? at : fault;
                    leave();
                }
            }
        }

        private void start(Doc doc, Walk walk, int page) {
            marks = 0;
            fault = NONE;
            begun = 0;
            level = 0;
            place[0] = 0;
            heaped[0] = 0;
            keeps[0] = 0;
            Arrays.fill(now, 0);
            now[SCALE] = 1;
            now[SIZE] = 1;
            for (int k = 0; k < 4; k++) {
                box[k] = walk.box(doc, page, k);
                now[CLIP + k] = box[k];
            }
        }

        private void leave() {
            if (level > 0) {
                System.arraycopy(ahead[level], 0, now, 0, ALL_FIVE);
            }
            level--;
        }

        /** Lays a VALUE on the HEAP: of a STRING or NAME its place. */
        private boolean lay(Text content, int at, int sign) {
            int behind = reader.readValue(content.signs, at, content.length);
            int top = heaped[level];
            if (behind < 0 || reader.isRef && sign != '(' && sign != '/' || top >= MOST_HEAP) {
                return false;
            }
            boolean isNumber = sign != '(' && sign != '/';
            heap[level][top] = isNumber ? reader.number : at;
            heapKind[level][top] = isNumber ? INTEGER : sign == '(' ? STRING : NAME;
            heaped[level] = top + 1;
            place[level] = behind;
            return true;
        }

        /** Begins the FORM that an "X" asks for; where nothing is done, this goes well, too. */
        private boolean beginForm(Doc doc, int forms) {
            if (!isHeap(NAME, 1)) {
                return false;
            }
            heaped[level] = 0;
            long name = Values.nameAt(text[level].signs, heap[level][0], text[level].length);
            int n = Values.refAt(store.signs, Values.entry(store.signs, forms, store.used, name), store.used);
            int id = doc.has(n) ? doc.object[n] : 0;
            int next = level + 1;
            if (next > MOST_LEVELS || begun >= MOST_FORMS || !store.isStream(id) || store.kindOf(id) != Values.FORM
                    || !sieve.textOf(store.signs, store.at(id), store.end(id), store.dataEnd(id), text[next])) {
                return true;
            }
            begun++;
            level = next;
            place[level] = 0;
            heaped[level] = 0;
            keeps[level] = 0;
            System.arraycopy(now, 0, ahead[level], 0, ALL_FIVE);
            return true;
        }

        /** Whether the HEAP has just so many of one kind. */
        private boolean isHeap(int kind, int many) {
            if (heaped[level] != many) {
                return false;
            }
            for (int k = 0; k < many; k++) {
                if (heapKind[level][k] != kind) {
                    return false;
                }
            }
            return true;
        }

        private boolean order(int sign) {
            int[] given = heap[level];
            boolean isDone;
            switch (sign) {
                case 'q':
                    isDone = isHeap(INTEGER, 0) && keep();
                    break;
                case 'Q':
                    isDone = isHeap(INTEGER, 0) && bringBack();
                    break;
                case 'M':
                    isDone = isHeap(INTEGER, 3) && moveOrigin(given[0], given[1], given[2]);
                    break;
                case 'B':
                    isDone = isHeap(INTEGER, 4) && fillRectangle(given);
                    break;
                case 'C':
                    isDone = isHeap(INTEGER, 4) && clip(given);
                    break;
                case 'Z':
                    isDone = isHeap(INTEGER, 1) && given[0] >= 1 && given[0] <= 999;
                    now[SIZE] = isDone ? given[0] : now[SIZE];
                    break;
                case 'P':
                    isDone = isHeap(INTEGER, 2);
                    now[PEN] = isDone ? given[0] : now[PEN];
                    now[PEN + 1] = isDone ? given[1] : now[PEN + 1];
                    break;
                case 'T':
                    isDone = isHeap(STRING, 1) && layText(text[level], given[0]);
                    break;
                default:
                    isDone = false;
                    break;
            }
            heaped[level] = 0;
            return isDone;
        }

        private boolean keep() {
            if (keeps[level] >= MOST_KEPT) {
                return false;
            }
            System.arraycopy(now, 0, kept[level], keeps[level] * ALL_FIVE, ALL_FIVE);
            keeps[level]++;
            return true;
        }

        private boolean bringBack() {
            if (keeps[level] <= 0) {
                return false;
            }
            keeps[level]--;
            System.arraycopy(kept[level], keeps[level] * ALL_FIVE, now, 0, ALL_FIVE);
            return true;
        }

        private boolean moveOrigin(int a, int e, int f) {
            int x = now[ORIGIN] + now[SCALE] * e;
            int y = now[ORIGIN + 1] + now[SCALE] * f;
            if (a < 1 || now[SCALE] * a > 9 || x < -9999 || x > 9999 || y < -9999 || y > 9999) {
                return false;
            }
            now[ORIGIN] = x;
            now[ORIGIN + 1] = y;
            now[SCALE] *= a;
            return true;
        }

        /** Finds what a rectangle, as it stands in a CONTENT, has in common with the CLIP. */
        private boolean meet(int x, int y, int w, int h) {
            int left = now[ORIGIN] + now[SCALE] * x;
            int low = now[ORIGIN + 1] + now[SCALE] * y;
            int right = Math.min(left + now[SCALE] * w, now[CLIP] + now[CLIP + 2]);
            int high = Math.min(low + now[SCALE] * h, now[CLIP + 1] + now[CLIP + 3]);
            both[0] = Math.max(left, now[CLIP]);
            both[1] = Math.max(low, now[CLIP + 1]);
            both[2] = Math.max(right - both[0], 0);
            both[3] = Math.max(high - both[1], 0);
            return both[2] > 0 && both[3] > 0;
        }

        private boolean fillRectangle(int[] given) {
            if (given[2] < 1 || given[3] < 1) {
                return false;
            }
            if (meet(given[0], given[1], given[2], given[3])) {
                addMark(0, both[0], both[1], both[2], both[3]);
            }
            return true;
        }

        private boolean clip(int[] given) {
            if (given[2] < 1 || given[3] < 1) {
                return false;
            }
            meet(given[0], given[1], given[2], given[3]);
            System.arraycopy(both, 0, now, CLIP, 4);
            return true;
        }

        private boolean layText(Text content, int from) {
            if (now[SIZE] * now[SCALE] > 999) {
                return false;
            }
            for (int at = from + 1; at < content.length && content.signs[at] != ')'; at++) {
                at += content.signs[at] == '\\' ? 1 : 0;
                int sign = at < content.length ? content.signs[at] : ' ';
                int width = (1 + sign % 3) * now[SIZE];
                if (meet(now[PEN], now[PEN + 1], width, now[SIZE])) {
                    addMark(sign, now[ORIGIN] + now[SCALE] * now[PEN], now[ORIGIN + 1] + now[SCALE] * now[PEN + 1],
                            now[SCALE] * width, now[SCALE] * now[SIZE]);
                }
                now[PEN] += width;
            }
            return true;
        }

        private void addMark(int sign, int x, int y, int w, int h) {
            if (marks >= MOST_MARKS) {
                return;
            }
            int at = marks * MARK;
            mark[at] = sign;
            mark[at + 1] = x;
            mark[at + 2] = y;
            mark[at + 3] = w;
            mark[at + 4] = h;
            marks++;
        }

        void tellMark(int k, Text into) {
            int at = k * MARK;
            if (mark[at] == 0) {
                into.addWords("B ");
            } else {
                into.addWords("L ");
                into.add(mark[at]);
                into.add(' ');
            }
            into.addPair(mark[at + 1], mark[at + 2]);
            into.add(' ');
            into.addPair(mark[at + 3], mark[at + 4]);
        }

        /** A row of the PAGE that was painted last, turned so often to the right. */
        void draw(int row, int turn, Text into) {
            int w = box[2];
            int h = box[3];
            int dots = turn % 2 == 0 ? w : h;
            for (int k = 0; k < dots; k++) {
                int column = turn == 0 ? k : turn == 1 ? row : turn == 2 ? w - 1 - k : w - 1 - row;
                int down = turn == 0 ? row : turn == 1 ? h - 1 - k : turn == 2 ? h - 1 - row : k;
                into.add(dotAt(box[0] + column, box[1] + h - 1 - down));
            }
        }

        private int dotAt(int x, int y) {
            for (int k = marks - 1; k >= 0; k--) {
                if (isMet(k, x, y, 1, 1)) {
                    return mark[k * MARK] == 0 ? '#' : mark[k * MARK];
                }
            }
            return '.';
        }

        private boolean isMet(int k, int x, int y, int w, int h) {
            int at = k * MARK;
            return mark[at + 1] < x + w && x < mark[at + 1] + mark[at + 3]
                    && mark[at + 2] < y + h && y < mark[at + 2] + mark[at + 4];
        }

        /** The first MARK of the k-th place at which a WORD is FOUND. */
        int placeOf(Text word, int k) {
            int found = 0;
            for (int first = 0; first + word.length <= marks; first++) {
                if (isWordAt(first, word)) {
                    if (found == k) {
                        return first;
                    }
                    found++;
                }
            }
            return NONE;
        }

        private boolean isWordAt(int first, Text word) {
            for (int k = 0; k < word.length; k++) {
                int at = (first + k) * MARK;
                if (mark[at] != word.signs[k]) {
                    return false;
                }
                if (k > 0 && (mark[at + 2] != mark[at - MARK + 2] || mark[at + 4] != mark[at - MARK + 4]
                        || mark[at + 1] != mark[at - MARK + 1] + mark[at - MARK + 3])) {
                    return false;
                }
            }
            return true;
        }

        /** Tells how many MARKS a rectangle meets, and makes a CONTENT of the others. */
        int blacken(int x, int y, int w, int h, Text into) {
            int went = 0;
            into.clear();
            for (int k = 0; k < marks; k++) {
                if (isMet(k, x, y, w, h)) {
                    went++;
                } else {
                    into.addWords(into.length > 0 ? "\n" : "");
                    tellOrder(k * MARK, into);
                }
            }
            return went;
        }

        private void tellOrder(int at, Text into) {
            if (mark[at] == 0) {
                into.addPair(mark[at + 1], mark[at + 2]);
                into.add(' ');
                into.addPair(mark[at + 3], mark[at + 4]);
                into.addWords(" B");
            } else {
                into.addNumber(mark[at + 4]);
                into.addWords(" Z ");
                into.addPair(mark[at + 1], mark[at + 2]);
                into.addWords(" P (");
                into.addQuoted(mark[at]);
                into.addWords(") T");
            }
        }

        void keepMarks() {
            oldMarks = marks;
            System.arraycopy(mark, 0, oldMark, 0, mark.length);
        }

        boolean areMarksAsKept() {
            if (marks != oldMarks) {
                return false;
            }
            for (int k = 0; k < marks * MARK; k++) {
                if (mark[k] != oldMark[k]) {
                    return false;
                }
            }
            return true;
        }
    }

    /** WRITES a DOCUMENT, anew or as an UPDATE. */
    private static final class Writer {
        private static final int MOST_PACKED = 4;

        /** Where the TABLE that was written last begins. */
        int table;
        private final Store store;
        private final Walk walk;
        private final Sieve sieve;
        private final Text pack = new Text(MOST_DATA);
        private final Text packed = new Text(MOST_DATA);
        /** Of each OBJECT where its BODY begins; NONE, GONE or PACKED. */
        private final int[] where = new int[OBJECTS + 1];
        /** Of each OBJECT the PACK it is in (0 is none), and its place there. */
        private final int[] packOf = new int[OBJECTS + 1];
        private final int[] spotOf = new int[OBJECTS + 1];
        private final boolean[] isPack = new boolean[OBJECTS + 1];

        Writer(Store store, Walk walk, Sieve sieve) {
            this.store = store;
            this.walk = walk;
            this.sieve = sieve;
        }

        /** Leaves the walk with what can be come to; false, if the DOCUMENT can not be WRITTEN. */
        boolean writeWhole(Doc doc, boolean isPacking, Text into) {
            walk.reach(doc);
            clearPlan();
            if (isPackCome(doc) || isPacking && !planPacks(doc)) {
                return false;
            }
            into.clear();
            into.addWords("%D1\n");
            int size = 1;
            for (int n = 1; n <= OBJECTS; n++) {
                if (isPack[n]) {
                    where[n] = into.length;
                    if (!addPack(doc, n, into)) {
                        return false;
                    }
                } else if (walk.hasCome(n)) {
                    size = n + 1;
                    where[n] = packOf[n] == 0 ? into.length : PACKED;
                    if (packOf[n] == 0) {
                        addBody(n, doc.object[n], into);
                    }
                }
                if (into.length > MOST_FILE) {
                    return false;
                }
            }
            addTable(doc, size, NONE, into);
            return into.length <= MOST_FILE;
        }

        /** Tells how long the FILE is with its UPDATE, 0 if there is nothing to tell, or that it is REFUSED. */
        int writeUpdate(Doc doc, Text file, Text into) {
            walk.reach(doc);
            clearPlan();
            if (isPackCome(doc)) {
                return REFUSED;
            }
            boolean isOther = !doc.isLockAsAtHome();
            int size = 1;
            into.take(file);
            for (int n = 1; n <= OBJECTS; n++) {
                if (walk.hasCome(n) && !store.isSame(doc.object[n], doc.home[n])) {
                    where[n] = into.length;
                    addBody(n, doc.object[n], into);
                } else if (!walk.hasCome(n) && doc.home[n] != 0) {
                    where[n] = GONE;
                }
                isOther = isOther || where[n] != NONE;
                size = walk.hasCome(n) || doc.home[n] != 0 ? n + 1 : size;
                if (into.length > MOST_FILE) {
                    return REFUSED;
                }
            }
            if (!isOther) {
                return 0;
            }
            addTable(doc, size, doc.homeTable, into);
            return into.length <= MOST_FILE ? into.length : REFUSED;
        }

        private void clearPlan() {
            for (int n = 0; n <= OBJECTS; n++) {
                where[n] = NONE;
                packOf[n] = 0;
                isPack[n] = false;
            }
        }

        private boolean isPackCome(Doc doc) {
            for (int n = 1; n <= OBJECTS; n++) {
                int id = doc.object[n];
                if (walk.hasCome(n) && store.isStream(id) && store.kindOf(id) == Values.PACK) {
                    return true;
                }
            }
            return false;
        }

        /** Deals the OBJECTS that are no STREAMS out to PACKS; false, if no numbers are left for these. */
        private boolean planPacks(Doc doc) {
            int number = 0;
            int spot = MOST_PACKED;
            for (int n = 1; n <= OBJECTS; n++) {
                if (!walk.hasCome(n) || store.isStream(doc.object[n])) {
                    continue;
                }
                if (spot == MOST_PACKED) {
                    number = doc.freeAbove(number);
                    if (number == 0) {
                        return false;
                    }
                    isPack[number] = true;
                    spot = 0;
                }
                packOf[n] = number;
                spotOf[n] = spot;
                spot++;
            }
            return true;
        }

        private boolean addPack(Doc doc, int number, Text into) {
            int many = 0;
            pack.clear();
            for (int n = 1; n <= OBJECTS; n++) {
                if (packOf[n] == number) {
                    int id = doc.object[n];
                    pack.addNumber(n);
                    pack.add(' ');
                    pack.addRange(store.signs, store.at(id), store.end(id));
                    pack.add('\n');
                    many++;
                }
            }
            if (pack.length > MOST_DATA || !sieve.make(RUN, pack, packed)) {
                return false;
            }
            into.addNumber(number);
            into.addWords(" o\n<</Count ");
            into.addNumber(many);
            into.addWords(" /Filter /Run /Kind /Pack /Len ");
            into.addNumber(packed.length);
            into.addWords(">>\ndata\n");
            into.addRange(packed.signs, 0, packed.length);
            into.addWords("\nend\n");
            return true;
        }

        private void addBody(int n, int id, Text into) {
            into.addNumber(n);
            into.addWords(" o\n");
            if (store.isStream(id)) {
                pack.clear();
                pack.addNumber(store.dataEnd(id) - store.end(id));
                Values.addBookWith(store.signs, store.at(id), store.end(id), Values.LEN, pack, into);
                into.addWords("\ndata\n");
                into.addRange(store.signs, store.end(id), store.dataEnd(id));
            } else {
                into.addRange(store.signs, store.at(id), store.end(id));
            }
            into.addWords("\nend\n");
        }

        private void addTable(Doc doc, int size, int last, Text into) {
            table = into.length;
            into.addWords("table\n");
            for (int n = 1; n <= OBJECTS; n++) {
                if (where[n] != NONE) {
                    into.addNumber(n);
                    into.add(' ');
                    addWhere(n, into);
                    into.add('\n');
                }
            }
            into.addWords("last\n<<");
            if (doc.hasLock) {
                into.addWords("/Lock <</Code ");
                into.addNumber(doc.code);
                into.addWords(" /Lets ");
                into.addNumber(doc.lets);
                into.addWords(">> ");
            }
            if (last != NONE) {
                into.addWords("/Prev ");
                into.addNumber(last);
                into.add(' ');
            }
            into.addWords("/Root ");
            into.addRef(doc.root);
            into.addWords(" /Size ");
            into.addNumber(size);
            into.addWords(">>\nstart\n");
            into.addNumber(table);
            into.addWords("\n%E\n");
        }

        private void addWhere(int n, Text into) {
            if (where[n] == GONE) {
                into.add('-');
            } else if (where[n] == PACKED) {
                into.add('p');
                into.addNumber(packOf[n]);
                into.add('.');
                into.addNumber(spotOf[n]);
            } else {
                into.addNumber(where[n]);
            }
        }
    }

    /** READS a FILE by its TABLES, or REPAIRS it by a scan. */
    private static final class Loader {
        /** What a FILE has, as it was READ or REPAIRED last. */
        final Doc loaded;
        /** Where the newest TABLE begins. */
        int start;
        private final Store store;
        private final Reader reader;
        private final Sieve sieve;
        private byte[] text = new byte[0];
        private int end;
        private int number;
        /** What the TABLE that is looked at tells of each OBJECT: a place; NONE, GONE or PACKED. */
        private final int[] told = new int[OBJECTS + 1];
        private final int[] toldPack = new int[OBJECTS + 1];
        private final int[] toldSpot = new int[OBJECTS + 1];
        /** What counts of all TABLES: the place of the BODY, or of that of its PACK (LOST without one). */
        private final int[] place = new int[OBJECTS + 1];
        private final int[] pack = new int[OBJECTS + 1];
        private final int[] spot = new int[OBJECTS + 1];
        /** Where, behind 0, the last line stands that begins with a TRAILER of which this is the Root. */
        private final int[] rootLine = new int[OBJECTS + 1];
        private int bodyNumber;
        private boolean isStream;
        /** The BODY that was read last: its VALUE, or its BOOK without "Len" and its DATA. */
        private final Text body = new Text(2 * MOST_FILE);
        private int bookLength;
        private final Text packText = new Text(MOST_DATA);

        Loader(Store store, Reader reader, Sieve sieve, Doc loaded) {
            this.store = store;
            this.reader = reader;
            this.sieve = sieve;
            this.loaded = loaded;
        }

        /** Tells the FAULT of a FILE, 0 without; the DOCUMENT is whole only then. */
        int load(Text file) {
            look(file);
            loaded.clear();
            if (expect(0, "%D1\n") < 0) {
                return 1;
            }
            start = startTold();
            if (start < 0) {
                return 2;
            }
            int fault = readTables();
            if (fault != 0) {
                return fault;
            }
            for (int n = 1; n <= OBJECTS; n++) {
                boolean isTold = place[n] != NONE && place[n] != GONE;
                if (isTold && !(pack[n] == 0 ? takeBody(n) : takePacked(n))) {
                    return 5;
                }
            }
            return loaded.has(loaded.root) ? 0 : 6;
        }

        private void look(Text file) {
            text = file.signs;
            end = file.length;
        }

        /** The place behind words that stand at a place, NONE if they do not, or there is no place. */
        private int expect(int at, String words) {
            if (at < 0 || at + words.length() > end) {
                return NONE;
            }
            for (int k = 0; k < words.length(); k++) {
                if (text[at + k] != words.charAt(k)) {
                    return NONE;
                }
            }
            return at + words.length();
        }

        /** Reads a number of 1 to 4 digits, and tells the place behind it, NONE without. */
        private int readNumber(int at) {
            number = 0;
            if (at < 0) {
                return NONE;
            }
            int behind = at;
            for (; behind < end && behind < at + 4 && text[behind] >= '0' && text[behind] <= '9'; behind++) {
                number = number * 10 + text[behind] - '0';
            }
            return behind > at ? behind : NONE;
        }

        /** The number that the end of the FILE tells, NONE if it does not end so. */
        private int startTold() {
            for (int digits = 1; digits <= 4; digits++) {
                int behind = readNumber(expect(end - 10 - digits, "start\n"));
                if (expect(behind, "\n%E\n") == end) {
                    return number;
                }
            }
            return NONE;
        }

        private int readTables() {
            Arrays.fill(place, NONE);
            int at = start;
            boolean isNewest = true;
            for (int left = MOST_FILE; left > 0; left--) {
                int fault = readTable(at, isNewest);
                if (fault != 0) {
                    return isNewest ? fault : 4;
                }
                takeTold();
                int last = Values.entry(reader.out.signs, 0, reader.out.length, Values.PREV);
                if (last < 0) {
                    return 0;
                }
                int ahead = Values.integerAt(reader.out.signs, last, reader.out.length);
                if (!Values.isInteger(reader.out.signs, last, reader.out.length) || ahead < 0 || ahead >= at) {
                    return 4;
                }
                at = ahead;
                isNewest = false;
            }
            return 4;
        }

        /** Leaves the TRAILER with the reader. */
        private int readTable(int from, boolean isNewest) {
            Arrays.fill(told, NONE);
            int at = expect(readLines(expect(from, "table\n")), "last\n");
            if (at < 0) {
                return 3;
            }
            at = reader.readValue(text, at, end);
            if (at < 0 || reader.out.signs[0] != '<' || isNewest && !takeTrailer()) {
                return 4;
            }
            at = expect(readNumber(expect(at, "\nstart\n")), "\n%E\n");
            return at < 0 ? 3 : 0;
        }

        private int readLines(int from) {
            int at = from;
            int last = 0;
            for (int left = OBJECTS; left >= 0 && at >= 0 && at < end && Values.isDigit(text[at]); left--) {
                at = expect(readNumber(at), " ");
                int n = number;
                if (at < 0 || n <= last || n > OBJECTS) {
                    return NONE;
                }
                last = n;
                at = expect(readWhere(at, n), "\n");
            }
            return at;
        }

        private int readWhere(int at, int n) {
            if (expect(at, "-") >= 0) {
                told[n] = GONE;
                return at + 1;
            }
            int behind = expect(at, "p");
            if (behind < 0) {
                behind = readNumber(at);
                told[n] = number;
                return behind;
            }
            behind = readNumber(behind);
            told[n] = PACKED;
            toldPack[n] = number;
            behind = readNumber(expect(behind, "."));
            toldSpot[n] = number;
            return behind;
        }

        /** What a newer TABLE tells of an OBJECT counts. */
        private void takeTold() {
            for (int n = 1; n <= OBJECTS; n++) {
                if (place[n] == NONE && told[n] != NONE) {
                    boolean isPacked = told[n] == PACKED;
                    pack[n] = isPacked ? toldPack[n] : 0;
                    spot[n] = toldSpot[n];
                    place[n] = isPacked ? placeOfPack(toldPack[n]) : told[n];
                }
            }
        }

        private int placeOfPack(int n) {
            return n >= 1 && n <= OBJECTS && told[n] >= 0 ? told[n] : LOST;
        }

        /** Takes ROOT and LOCK; false, if there is no ROOT. */
        private boolean takeTrailer() {
            byte[] signs = reader.out.signs;
            int length = reader.out.length;
            int root = Values.refAt(signs, Values.entry(signs, 0, length, Values.ROOT), length);
            int lock = Values.entry(signs, 0, length, Values.LOCK);
            int code = Values.entry(signs, lock, length, Values.CODE);
            int lets = Values.entry(signs, lock, length, Values.LETS);
            if (root == 0) {
                return false;
            }
            loaded.root = root;
            if (Values.isInteger(signs, code, length) && Values.isInteger(signs, lets, length)) {
                loaded.hasLock = true;
                loaded.code = Values.integerAt(signs, code, length);
                loaded.lets = Values.integerAt(signs, lets, length);
            }
            return true;
        }

        private boolean takeBody(int n) {
            if (place[n] < 0 || readBody(place[n], n) < 0) {
                return false;
            }
            if (!isPack()) {
                loaded.object[n] = store.add(body, bookLength, isStream);
            }
            return true;
        }

        /** Takes an OBJECT out of its PACK: all that stands ahead of it there has to be right, too. */
        private boolean takePacked(int n) {
            if (place[n] < 0 || readBody(place[n], pack[n]) < 0 || !isPack()
                    || !sieve.textOf(body.signs, 0, bookLength, body.length, packText)) {
                return false;
            }
            byte[] file = text;
            int length = end;
            look(packText);
            int at = 0;
            for (int k = 0; k <= spot[n] && at >= 0; k++) {
                at = readPackLine(at);
            }
            text = file;
            end = length;
            if (at < 0 || bodyNumber != n) {
                return false;
            }
            loaded.object[n] = store.add(reader.out, reader.out.length, false);
            return true;
        }

        private int readPackLine(int from) {
            int at = expect(readNumber(from), " ");
            bodyNumber = number;
            if (at < 0 || bodyNumber < 1 || bodyNumber > OBJECTS) {
                return NONE;
            }
            return expect(reader.readValue(text, at, end), "\n");
        }

        /** Reads the BODY of an OBJECT (of any number, if that is 0), and tells the place behind it, NONE without. */
        private int readBody(int from, int n) {
            int at = expect(readNumber(from), " o\n");
            bodyNumber = number;
            if (at < 0 || bodyNumber < 1 || bodyNumber > OBJECTS || n != 0 && bodyNumber != n) {
                return NONE;
            }
            at = reader.readValue(text, at, end);
            isStream = false;
            int behind = expect(at, "\nend\n");
            if (behind < 0) {
                return readData(expect(at, "\ndata\n"));
            }
            body.take(reader.out);
            bookLength = body.length;
            return behind;
        }

        private int readData(int at) {
            int length = reader.out.length;
            int len = Values.entry(reader.out.signs, 0, length, Values.LEN);
            int size = Values.integerAt(reader.out.signs, len, length);
            if (at < 0 || !Values.isInteger(reader.out.signs, len, length) || size < 0 || size > MOST_DATA) {
                return NONE;
            }
            isStream = true;
            body.clear();
            Values.addBookWith(reader.out.signs, 0, length, Values.LEN, null, body);
            bookLength = body.length;
            body.addRange(text, at, at + size);
            return expect(at + size, "\nend\n");
        }

        /** Whether the BODY that was read last is a PACK. */
        private boolean isPack() {
            int kind = Values.entry(body.signs, 0, bookLength, Values.KIND);
            return isStream && Values.nameAt(body.signs, kind, bookLength) == Values.PACK;
        }

        /** False, if the FILE can not be REPAIRED. */
        boolean mend(Text file) {
            look(file);
            loaded.clear();
            scan();
            for (int n = 1; n <= OBJECTS; n++) {
                if (place[n] >= 0) {
                    takeBody(n);
                }
            }
            for (int n = 1; n <= OBJECTS; n++) {
                if (place[n] >= 0 && !loaded.has(n) && readBody(place[n], n) >= 0 && isPack()) {
                    unpack();
                    look(file);
                }
            }
            loaded.root = rootFound();
            return loaded.root != 0;
        }

        private void scan() {
            Arrays.fill(place, NONE);
            Arrays.fill(rootLine, 0);
            int line = 0;
            for (int at = 0; at < end; at++) {
                int behind = at == line ? readBody(at, 0) : NONE;
                if (behind > at) {
                    place[bodyNumber] = at;
                    at = behind - 1;
                } else if (at == line) {
                    findTrailer(at);
                }
                line = text[at] == '\n' ? at + 1 : line;
            }
        }

        /** An empty line needs no look: what is READ from there is READ from the next line, too. */
        private void findTrailer(int line) {
            int at = line;
            for (; at < end && text[at] == ' '; at++) {
                // BLANKS may stand ahead
            }
            if (at < end && text[at] == '<' && reader.readValue(text, at, end) >= 0) {
                byte[] signs = reader.out.signs;
                int length = reader.out.length;
                rootLine[Values.refAt(signs, Values.entry(signs, 0, length, Values.ROOT), length)] = line + 1;
            }
        }

        private void unpack() {
            if (!sieve.textOf(body.signs, 0, bookLength, body.length, packText)) {
                return;
            }
            look(packText);
            int at = readPackLine(0);
            for (int left = MOST_DATA; left > 0 && at >= 0; left--) {
                if (place[bodyNumber] < 0) {
                    loaded.object[bodyNumber] = store.add(reader.out, reader.out.length, false);
                }
                at = readPackLine(at);
            }
        }

        private int rootFound() {
            int root = 0;
            int line = 0;
            for (int n = 1; n <= OBJECTS; n++) {
                if (loaded.has(n) && rootLine[n] > line) {
                    root = n;
                    line = rootLine[n];
                }
            }
            for (int n = 1; n <= OBJECTS && root == 0; n++) {
                if (store.isBook(loaded.object[n]) && store.kindOf(loaded.object[n]) == Values.ROOT) {
                    root = n;
                }
            }
            return root;
        }
    }

    /** Changes DOCUMENTS. Where an act can not be, it may leave one half done: the caller takes that back. */
    private static final class Editor {
        /** A copy of a DOCUMENT that an act needs, which may be changed. */
        final Doc copy;
        private final Store store;
        private final Walk walk;
        /** What is said by a NAME, or of it, as it is put together. */
        private final Text value = new Text(MOST_DATA);
        private final Text item = new Text(MOST_DATA);
        /** The BOOK that is being changed, and how many NAMES it has. */
        private Text book = new Text(MOST_DATA);
        private Text otherBook = new Text(MOST_DATA);
        private int names;
        /** The OBJECT that is the TREE of the DOCUMENT made FLAT last, and its PAGES. */
        private int tree;
        private final int[] kids = new int[OBJECTS + 1];
        private int many;
        private final int[] joined = new int[OBJECTS + 1];
        /** Of each OBJECT that is copied its new number, 0 without. */
        private final int[] renamed = new int[OBJECTS + 1];

        Editor(Store store, Walk walk, Doc copy) {
            this.store = store;
            this.walk = walk;
            this.copy = copy;
        }

        void makeNew(Doc doc) {
            doc.clear();
            value.clear();
            value.addWords("<</Kind /Root /Pages 2 R>>");
            doc.object[1] = store.add(value, value.length, false);
            value.clear();
            value.addWords("<</Count 0 /Kids [] /Kind /Tree>>");
            doc.object[2] = store.add(value, value.length, false);
        }

        // ---- BOOKS of OBJECTS

        /** Begins to change the BOOK that an OBJECT is or has, or an empty one. */
        private void takeBook(Doc doc, int n) {
            int id = doc.has(n) ? doc.object[n] : 0;
            book.clear();
            if (store.isBook(id) || store.isStream(id)) {
                book.addRange(store.signs, store.at(id), store.end(id));
            } else {
                book.addWords("<<>>");
            }
        }

        /** The BOOK gets what value is by a NAME. */
        private void tell(long name) {
            otherBook.clear();
            names = Values.addBookWith(book.signs, 0, book.length, name, value, otherBook);
            Text swapped = book;
            book = otherBook;
            otherBook = swapped;
        }

        private void tellNothing(long name) {
            value.clear();
            tell(name);
        }

        /** False, if the BOOK has too many NAMES. */
        private boolean keepBook(Doc doc, int n) {
            if (names > MOST_NAMES) {
                return false;
            }
            doc.object[n] = store.add(book, book.length, false);
            return true;
        }

        private boolean keepStream(Doc doc, int n, Text data) {
            int length = book.length;
            if (names > MOST_NAMES - 1) {
                return false;
            }
            book.addRange(data.signs, 0, data.length);
            doc.object[n] = store.add(book, length, true);
            return true;
        }

        /** What is said by a NAME becomes a ROW with item behind what it had; false, if that is too long. */
        private boolean tellMore(long name, boolean isRefKept) {
            int at = Values.entry(book.signs, 0, book.length, name);
            int had = Values.items(book.signs, at, book.length);
            value.clear();
            value.add('[');
            if (had > 0) {
                value.addRange(book.signs, at + 1, Values.behind(book.signs, at, book.length) - 1);
                value.add(' ');
            } else if (isRefKept && Values.refAt(book.signs, at, book.length) > 0) {
                value.addRef(Values.refAt(book.signs, at, book.length));
                value.add(' ');
            }
            value.addRange(item.signs, 0, item.length);
            value.add(']');
            tell(name);
            return had < MOST_VALUES;
        }

        boolean makeStream(Doc doc, int n, Text data) {
            takeBook(doc, n);
            tellNothing(Values.FILTER);
            tellNothing(Values.LEN);
            return keepStream(doc, n, data);
        }

        boolean tellFilters(Doc doc, int n, int first, int second, int third, Text data) {
            takeBook(doc, n);
            value.clear();
            if (first != NONE) {
                value.add('[');
                addFilter(first);
                addFilter(second);
                addFilter(third);
                value.add(']');
            }
            tell(Values.FILTER);
            return keepStream(doc, n, data);
        }

        private void addFilter(int filter) {
            if (filter != NONE) {
                value.addWords(value.length > 1 ? " " : "");
                value.addName(filter == HEX ? Values.HEX_NAME : filter == RUN ? Values.RUN_NAME : Values.BACK_NAME);
            }
        }

        // ---- FLAT

        /** Makes a DOCUMENT FLAT; false, if it can not be. */
        boolean flatten(Doc doc) {
            walk.list(doc);
            many = walk.pages;
            if (!doc.has(doc.root) || !store.isBook(doc.object[doc.root]) || many > MOST_VALUES) {
                return false;
            }
            int top = Values.refAt(store.signs, store.entryOf(doc.object[doc.root], Values.PAGES), store.used);
            boolean isTree = doc.has(top) && top != doc.root && store.isBook(doc.object[top])
                    && store.kindOf(doc.object[top]) != Values.PAGE;
            tree = isTree ? top : doc.freeAbove(0);
            if (tree == 0) {
                return false;
            }
            for (int k = 0; k < many; k++) {
                kids[k] = walk.pageAt(k);
                if (!flattenPage(doc, k)) {
                    return false;
                }
            }
            return tellKids(doc) && (isTree || leadTo(doc, tree));
        }

        private boolean flattenPage(Doc doc, int k) {
            takeBook(doc, kids[k]);
            tellTurnOf(walk.turn(doc, k));
            int forms = walk.forms(doc, k);
            value.clear();
            if (Values.entryAt(store.signs, forms, store.used, 0) >= 0) {
                value.addRange(store.signs, forms, Values.behind(store.signs, forms, store.used));
            }
            tell(Values.FORMS);
            tellBoxOf(walk.box(doc, k, 0), walk.box(doc, k, 1), walk.box(doc, k, 2), walk.box(doc, k, 3));
            return keepBook(doc, kids[k]);
        }

        private void tellTurnOf(int turn) {
            value.clear();
            if (turn != 0) {
                value.addNumber(turn);
            }
            tell(Values.TURN);
        }

        private void tellBoxOf(int x, int y, int w, int h) {
            value.clear();
            value.add('[');
            value.addPair(x, y);
            value.add(' ');
            value.addPair(w, h);
            value.add(']');
            tell(Values.BOX);
        }

        /** The TREE becomes what kids tells; false, if they are too many. */
        private boolean tellKids(Doc doc) {
            value.clear();
            value.addWords("<</Count ");
            value.addNumber(many);
            value.addWords(" /Kids [");
            for (int k = 0; k < many; k++) {
                value.addWords(k > 0 ? " " : "");
                value.addRef(kids[k]);
            }
            value.addWords("] /Kind /Tree>>");
            doc.object[tree] = store.add(value, value.length, false);
            return many <= MOST_VALUES;
        }

        private boolean leadTo(Doc doc, int n) {
            takeBook(doc, doc.root);
            value.clear();
            value.addRef(n);
            tell(Values.PAGES);
            return keepBook(doc, doc.root);
        }

        // ---- PAGES

        private void insertKid(int at, int n) {
            for (int k = many; k > at; k--) {
                kids[k] = kids[k - 1];
            }
            kids[at] = n;
            many++;
        }

        private void removeKid(int at) {
            many--;
            for (int k = at; k < many; k++) {
                kids[k] = kids[k + 1];
            }
        }

        int addPage(Doc doc, int at, int w, int h) {
            if (!flatten(doc)) {
                return REFUSED;
            }
            int n = doc.freeAbove(0);
            if (n == 0) {
                return REFUSED;
            }
            value.clear();
            value.addWords("<</Box [0 0 ");
            value.addPair(w, h);
            value.addWords("] /Kind /Page>>");
            doc.object[n] = store.add(value, value.length, false);
            insertKid(at, n);
            return tellKids(doc) ? n : REFUSED;
        }

        int shiftPage(Doc doc, int page, int to) {
            if (!flatten(doc)) {
                return REFUSED;
            }
            int n = kids[page];
            removeKid(page);
            insertKid(to, n);
            return tellKids(doc) ? n : REFUSED;
        }

        int takePageOut(Doc doc, int page) {
            if (!flatten(doc)) {
                return REFUSED;
            }
            removeKid(page);
            return tellKids(doc) ? many : REFUSED;
        }

        int tellTurn(Doc doc, int page, int turn) {
            takeBook(doc, walk.pageAt(page));
            value.clear();
            value.addNumber(turn);
            tell(Values.TURN);
            return keepBook(doc, walk.pageAt(page)) ? turn : REFUSED;
        }

        boolean tellBox(Doc doc, int page, int x, int y, int w, int h) {
            takeBook(doc, walk.pageAt(page));
            tellBoxOf(x, y, w, h);
            return keepBook(doc, walk.pageAt(page));
        }

        int addStream(Doc doc, int page, Text data) {
            int n = doc.freeAbove(0);
            if (n == 0 || !makeStream(doc, n, data)) {
                return REFUSED;
            }
            takeBook(doc, walk.pageAt(page));
            item.clear();
            item.addRef(n);
            return tellMore(Values.PARTS, true) && keepBook(doc, walk.pageAt(page)) ? n : REFUSED;
        }

        int addForm(Doc doc, int page, int letter, Text data) {
            int n = doc.freeAbove(0);
            if (n == 0) {
                return REFUSED;
            }
            takeBook(doc, n);
            value.clear();
            value.addName(Values.FORM);
            tell(Values.KIND);
            keepStream(doc, n, data);
            int forms = walk.forms(doc, page);
            item.clear();
            item.addRef(n);
            value.clear();
            int told = Values.addBookWith(store.signs, forms, store.used, Values.letter(letter), item, value);
            takeBook(doc, walk.pageAt(page));
            tell(Values.FORMS);
            return told <= MOST_NAMES && keepBook(doc, walk.pageAt(page)) ? n : REFUSED;
        }

        /** The CONTENT of a PAGE becomes a new one, which needs no FORMS. */
        boolean tellBlackened(Doc doc, int page, Text data) {
            int n = doc.freeAbove(0);
            if (n == 0 || data.length > MOST_DATA || !makeStream(doc, n, data)) {
                return false;
            }
            takeBook(doc, walk.pageAt(page));
            value.clear();
            value.add('[');
            value.addRef(n);
            value.add(']');
            tell(Values.PARTS);
            value.clear();
            value.addWords("<<>>");
            tell(Values.FORMS);
            return keepBook(doc, walk.pageAt(page));
        }

        // ---- MERGE and SPLIT

        /** Puts the PAGES of the copy behind those of a DOCUMENT, and tells how many it has then. */
        int join(Doc doc) {
            if (!flatten(copy)) {
                return REFUSED;
            }
            int more = many;
            System.arraycopy(kids, 0, joined, 0, more);
            walk.reachFromPages(copy);
            if (!flatten(doc) || many + more > MOST_VALUES || !rename(doc)) {
                return REFUSED;
            }
            for (int n = 1; n <= OBJECTS; n++) {
                if (renamed[n] != 0) {
                    copyObject(copy.object[n], doc, renamed[n]);
                }
            }
            for (int k = 0; k < more; k++) {
                insertKid(many, renamed[joined[k]]);
            }
            return tellKids(doc) ? many : REFUSED;
        }

        /** Gives numbers to all that the walk has come to; false, if too few are left. */
        private boolean rename(Doc doc) {
            int last = 0;
            Arrays.fill(renamed, 0);
            for (int n = 1; n <= OBJECTS; n++) {
                if (walk.hasCome(n)) {
                    last = doc.freeAbove(last);
                    renamed[n] = last;
                    if (last == 0) {
                        return false;
                    }
                }
            }
            return true;
        }

        private void copyObject(int id, Doc doc, int n) {
            value.clear();
            copyValue(store.at(id), store.end(id), 1);
            int length = value.length;
            value.addRange(store.signs, store.end(id), store.dataEnd(id));
            doc.object[n] = store.add(value, length, store.isStream(id));
        }

        /** Copies a VALUE with its REFS told anew, and tells the place behind it. */
        private int copyValue(int at, int end, int deep) {
            if (Values.isAt(store.signs, at, end, '[') && deep <= MOST_DEEP) {
                return copyRow(at, end, deep);
            }
            if (Values.isAt(store.signs, at, end, '<') && deep <= MOST_DEEP) {
                return copyBook(at, end, deep);
            }
            int behind = Values.behind(store.signs, at, end);
            int ref = Values.refAt(store.signs, at, end);
            if (ref == 0) {
                value.addRange(store.signs, at, behind);
            } else if (renamed[ref] == 0) {
                value.addWords("null");
            } else {
                value.addRef(renamed[ref]);
            }
            return behind;
        }

        private int copyRow(int row, int end, int deep) {
            int at = row + 1;
            value.add('[');
            for (int k = 0; k < MOST_VALUES && at < end && store.signs[at] != ']'; k++) {
                if (store.signs[at] == ' ') {
                    value.add(' ');
                    at++;
                }
                at = copyValue(at, end, deep + 1);
            }
            value.add(']');
            return at + 1;
        }

        private int copyBook(int from, int end, int deep) {
            int at = from + 2;
            int told = 0;
            value.addWords("<<");
            for (int k = 0; k < MOST_NAMES; k++) {
                long name = Values.nameAt(store.signs, at, end);
                if (name == 0) {
                    break;
                }
                at = Values.behind(store.signs, at + 1, end) + 1;
                int ref = Values.refAt(store.signs, at, end);
                if (ref != 0 && renamed[ref] == 0) {
                    at = Values.behind(store.signs, at, end);
                } else {
                    value.addWords(told > 0 ? " " : "");
                    value.addName(name);
                    value.add(' ');
                    at = copyValue(at, end, deep + 1);
                    told++;
                }
                at += Values.isAt(store.signs, at, end, ' ') ? 1 : 0;
            }
            value.addWords(">>");
            return at + 2;
        }

        /** Makes the copy FLAT and leaves some PAGES alone in it; false, if that can not be. */
        boolean keepPages(int from, int to) {
            if (!flatten(copy)) {
                return false;
            }
            many = to - from + 1;
            for (int k = 0; k < many; k++) {
                kids[k] = kids[from + k];
            }
            return tellKids(copy);
        }

        // ---- NOTES

        int addNote(Doc doc, int page, int x, int y, int word) {
            int n = walk.pageAt(page);
            takeBook(doc, n);
            item.clear();
            item.addWords("<</At [");
            item.addPair(x, y);
            item.addWords("] /Say (");
            item.addWord(word);
            item.addWords(")>>");
            if (!tellMore(Values.NOTES, false) || !keepBook(doc, n)) {
                return REFUSED;
            }
            int books = 0;
            int at = Values.itemAt(value.signs, 0, value.length, 0);
            for (int k = 0; k < MOST_VALUES && at >= 0; k++) {
                books += Values.isAt(value.signs, at, value.length, '<') ? 1 : 0;
                at = Values.nextItem(value.signs, at, value.length);
            }
            return books;
        }

        /** The place of the VALUE that the BOOK at a place has by a NAME. */
        private int said(int book, long name) {
            return Values.entry(store.signs, book, store.used, name);
        }

        private boolean isNote(int note) {
            int at = said(note, Values.AT);
            return Values.itemAt(store.signs, at, store.used, 2) < 0
                    && Values.isInteger(store.signs, Values.itemAt(store.signs, at, store.used, 0), store.used)
                    && Values.isInteger(store.signs, Values.itemAt(store.signs, at, store.used, 1), store.used)
                    && Values.isAt(store.signs, said(note, Values.SAY), store.used, '(');
        }

        /** The place of the k-th NOTE of a PAGE, NONE without. */
        private int noteAt(Doc doc, int page, int k) {
            int note = firstNote(doc, page);
            int left = k;
            for (int i = 0; i < MOST_VALUES && note >= 0; i++) {
                left -= isNote(note) ? 1 : 0;
                if (left < 0) {
                    return k < 0 ? NONE : note;
                }
                note = Values.nextItem(store.signs, note, store.used);
            }
            return NONE;
        }

        private int firstNote(Doc doc, int page) {
            int notes = doc.has(page) ? store.entryOf(doc.object[page], Values.NOTES) : NONE;
            return Values.itemAt(store.signs, notes, store.used, 0);
        }

        int notes(Doc doc, int page) {
            int note = firstNote(doc, page);
            int found = 0;
            for (int i = 0; i < MOST_VALUES && note >= 0; i++) {
                found += isNote(note) ? 1 : 0;
                note = Values.nextItem(store.signs, note, store.used);
            }
            return found;
        }

        boolean tellNote(Doc doc, int page, int k, Text into) {
            int note = noteAt(doc, page, k);
            if (note < 0) {
                return false;
            }
            int at = said(note, Values.AT);
            into.addNumber(Values.integerAt(store.signs, Values.itemAt(store.signs, at, store.used, 0), store.used));
            into.add(',');
            into.addNumber(Values.integerAt(store.signs, Values.itemAt(store.signs, at, store.used, 1), store.used));
            into.add(' ');
            Values.addString(store.signs, said(note, Values.SAY), store.used, into);
            return true;
        }

        // ---- LINES

        boolean addTitle(Doc doc, int deep, int word, int page) {
            if (!doc.has(doc.root) || !store.isBook(doc.object[doc.root])) {
                return false;
            }
            takeBook(doc, doc.root);
            item.clear();
            item.addWords("<</Deep ");
            item.addNumber(deep);
            item.addWords(" /Title (");
            item.addWord(word);
            item.addWords(") /To ");
            item.addRef(page);
            item.addWords(">>");
            return tellMore(Values.LINES, false) && keepBook(doc, doc.root);
        }

        private boolean isTitle(int line) {
            int deep = said(line, Values.DEEP);
            int number = Values.integerAt(store.signs, deep, store.used);
            return Values.isInteger(store.signs, deep, store.used) && number >= 0 && number <= 3
                    && Values.isAt(store.signs, said(line, Values.TITLE), store.used, '(')
                    && Values.refAt(store.signs, said(line, Values.TO), store.used) > 0;
        }

        /** The place of the k-th LINE, NONE without. */
        private int titleAt(Doc doc, int k) {
            int line = firstTitle(doc);
            int left = k;
            for (int i = 0; i < MOST_VALUES && line >= 0; i++) {
                left -= isTitle(line) ? 1 : 0;
                if (left < 0) {
                    return k < 0 ? NONE : line;
                }
                line = Values.nextItem(store.signs, line, store.used);
            }
            return NONE;
        }

        private int firstTitle(Doc doc) {
            int lines = doc.has(doc.root) ? store.entryOf(doc.object[doc.root], Values.LINES) : NONE;
            return Values.itemAt(store.signs, lines, store.used, 0);
        }

        int titles(Doc doc) {
            int line = firstTitle(doc);
            int found = 0;
            for (int i = 0; i < MOST_VALUES && line >= 0; i++) {
                found += isTitle(line) ? 1 : 0;
                line = Values.nextItem(store.signs, line, store.used);
            }
            return found;
        }

        /** The PAGES of the DOCUMENT have to be listed by the walk. */
        boolean tellTitle(Doc doc, int k, Text into) {
            int line = titleAt(doc, k);
            if (line < 0) {
                return false;
            }
            int deep = Values.integerAt(store.signs, said(line, Values.DEEP), store.used);
            for (int i = 0; i < deep; i++) {
                into.add('>');
            }
            Values.addString(store.signs, said(line, Values.TITLE), store.used, into);
            into.add(' ');
            int page = walk.pageOf(
                    Values.refAt(store.signs, said(line, Values.TO), store.used));
            if (page < 0) {
                into.add('-');
            } else {
                into.addNumber(page);
            }
            return true;
        }

        // ---- FIELDS

        private int fieldsOf(Doc doc) {
            return doc.has(doc.root) ? store.entryOf(doc.object[doc.root], Values.FIELDS) : NONE;
        }

        private boolean isField(int field) {
            return Values.isInteger(store.signs, said(field, Values.MOST), store.used)
                    && Values.isAt(store.signs, said(field, Values.VALUE), store.used, '(');
        }

        /** The place of the FIELD with a NAME of one letter, NONE without. */
        private int fieldAt(Doc doc, int letter) {
            int field = said(fieldsOf(doc), Values.letter(letter));
            return isField(field) ? field : NONE;
        }

        int fields(Doc doc) {
            int fields = fieldsOf(doc);
            int found = 0;
            for (int k = 0; k < MOST_NAMES; k++) {
                found += isField(Values.entryAt(store.signs, fields, store.used, k)) ? 1 : 0;
            }
            return found;
        }

        boolean addField(Doc doc, int letter, int most) {
            item.clear();
            item.addWords("<</Most ");
            item.addNumber(most);
            item.addWords(" /Value ()>>");
            return tellFieldAs(doc, letter);
        }

        /** The FIELD with a NAME of one letter becomes what item is. */
        private boolean tellFieldAs(Doc doc, int letter) {
            if (!doc.has(doc.root) || !store.isBook(doc.object[doc.root])) {
                return false;
            }
            takeBook(doc, doc.root);
            int fields = fieldsOf(doc);
            value.clear();
            int told = Values.addBookWith(store.signs, fields, store.used, Values.letter(letter), item, value);
            tell(Values.FIELDS);
            return told <= MOST_NAMES && keepBook(doc, doc.root);
        }

        boolean tellField(Doc doc, int letter, Text word) {
            int field = fieldAt(doc, letter);
            int most = said(field, Values.MOST);
            if (field < 0 || word.length > Values.integerAt(store.signs, most, store.used)) {
                return false;
            }
            value.clear();
            value.add('(');
            value.addRange(word.signs, 0, word.length);
            value.add(')');
            item.clear();
            Values.addBookWith(store.signs, field, store.used, Values.VALUE, value, item);
            return tellFieldAs(doc, letter);
        }

        boolean tellValue(Doc doc, int letter, Text into) {
            int field = fieldAt(doc, letter);
            if (field < 0) {
                return false;
            }
            Values.addString(store.signs, said(field, Values.VALUE), store.used, into);
            return true;
        }
    }
}
