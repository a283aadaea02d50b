/** The boundaries of READ and REPAIR (section 3 of the document, promises 17 to 19). */
public final class ReadBounds extends Trial {
    private static final String ROOT = body(1, "<</Kind /Root /Pages 2 R>>");
    private static final String TREE = body(2, "<</Count 0 /Kids [] /Kind /Tree>>");
    private static final String NEW = "%D1\n" + ROOT + TREE;
    private static final String LINES = "table\n1 4\n2 39\n";
    private static final String TRAILER = "last\n<</Root 1 R /Size 3>>\n";

    public static void main(String[] args) {
        ReadBounds bounds = new ReadBounds();
        bounds.begins();
        bounds.ends();
        bounds.tables();
        bounds.tableLines();
        bounds.behindTrailers();
        bounds.trailers();
        bounds.previous();
        bounds.older();
        bounds.bodies();
        bounds.streams();
        bounds.packs();
        bounds.packPlaces();
        bounds.roots();
        bounds.cuts();
        bounds.sequence();
        bounds.reads();
        bounds.locks();
        bounds.repairBodies();
        bounds.repairStreams();
        bounds.repairPacks();
        bounds.repairTrailers();
        bounds.repairRoots();
        bounds.repairs();
        bounds.end();
    }

    private void faultOf(String what, int want, String text) {
        back();
        file(0, text);
        due(what, want, x -> x.faultOf(0));
        if (want != 0) {
            idle(what, -want, x -> x.read(0, 1));
        }
    }

    private void begins() {
        start("FAULT 1: it does not begin with \"%D1\" NEWLINE");
        String rest = (NEW + LINES + TRAILER + "start\n81\n%E\n").substring(3);
        faultOf("so", 0, "%D1" + rest);
        faultOf("nothing", 1, "");
        faultOf("too short", 1, "%D1");
        faultOf("no NEWLINE", 1, "%D1 " + rest.substring(1));
        faultOf("another letter", 1, "%d1" + rest);
        faultOf("another number", 1, "%D2" + rest);
        faultOf("something ahead", 1, " %D1" + rest);
        faultOf("a NEWLINE ahead", 1, "\n%D1" + rest);
        faultOf("nothing else", 2, "%D1\n");
    }

    private void ends() {
        start("2: it does not end with \"start\" NEWLINE, a number (1 to 4 digits; 0 may stand ahead), NEWLINE, \"%E\" NEWLINE");
        String ahead = NEW + LINES + TRAILER;
        for (String number : new String[] {"81", "081", "0081"}) {
            faultOf(number, 0, ahead + "start\n" + number + "\n%E\n");
        }
        for (String number : new String[] {"", "00081", " 81", "81 ", "-81", "8a", "8 1", "x", "81\n",
            "8:", ":1", "7;", "/1"}) {
            faultOf(number, 2, ahead + "start\n" + number + "\n%E\n");
        }
        for (String end : new String[] {"start\n81\n%E", "start\n81\n%E\n\n", "start\n81\n%e\n", "start\n81\n%E \n",
            "start\n81%E\n", "start 81\n%E\n", "Start\n81\n%E\n", "star\n81\n%E\n", "", "81\n%E\n", "%E\n", "\n"}) {
            faultOf(end, 2, ahead + end);
        }
        faultOf("one digit", 3, ahead + "start\n8\n%E\n");
        faultOf("four digits", 3, ahead + "start\n9999\n%E\n");
        faultOf("nothing ahead of it", 3, "%D1\nstart\n4\n%E\n");
        faultOf("not at the begin of a line", 0, ahead + "start\n0\n%E\n" + "-start\n81\n%E\n");
    }

    private void tables() {
        start("3: at that number there is no TABLE");
        String ahead = NEW + LINES + TRAILER;
        for (int place : new int[] {0, 4, 39, 80, 82, 87, 96, ahead.length(), ahead.length() + 12, 6000, 9999}) {
            faultOf("at " + place, 3, ahead + "start\n" + place + "\n%E\n");
        }
        for (String table : new String[] {"table ", "Table", "tables", "tabl", "", "\ntable"}) {
            faultOf(table, 3, tabled(NEW, table + "\n1 4\n2 39\n" + TRAILER));
        }
        for (String last : new String[] {"last ", "Last", "las", "lasts", "\nlast", "", "3"}) {
            faultOf(last, 3, tabled(NEW, LINES + last + "\n<</Root 1 R>>\n"));
        }
        faultOf("it ends too early", 3, NEW + "table\n1 4\nstart\n81\n%E\n");
        faultOf("no line at all", 6, tabled(NEW, "table\n" + TRAILER));
    }

    private void tableLines() {
        start("3: no TABLE in its form to the letter: lines");
        for (String line : new String[] {"1  4", " 1 4", "1 4 ", "1,4", "1\n4", "1 4\n", "\n1 4", "a 4", "1 a", "1 -4", "1 --",
            "1 - ", "1 -1", "1", "1 ", "-1 4", "1 p", "1 p9", "1 p9.", "1 p.0", "1 p9,0", "1 p9.0 ", "1 P9.0", "1 p 9.0",
            "1 p9. 0", "1 p-9.0", "1 p9.-1", "1 4.0", "1 +4", "1 (4)"}) {
            faultOf(line, 3, tabled(NEW, "table\n" + line + "\n2 39\n" + TRAILER));
        }
        goOn("of numbers up to 4 digits, 0 may stand ahead");
        faultOf("0001 0004", 0, tabled(NEW, "table\n0001 0004\n02 039\n" + TRAILER));
        faultOf("00001", 3, tabled(NEW, "table\n00001 4\n2 39\n" + TRAILER));
        faultOf("00004", 3, tabled(NEW, "table\n1 00004\n2 39\n" + TRAILER));
        faultOf("9999", 5, tabled(NEW, "table\n1 4\n2 9999\n" + TRAILER));
        faultOf("10000", 3, tabled(NEW, "table\n1 4\n2 10000\n" + TRAILER));
        faultOf("p00009", 3, tabled(NEW, "table\n1 4\n2 p00009.0\n" + TRAILER));
        faultOf("p9.00000", 3, tabled(NEW, "table\n1 4\n2 p9.00000\n" + TRAILER));
        faultOf("p0009.0000 is one", 5, tabled(NEW, "table\n1 4\n2 p0009.0000\n" + TRAILER));
        faultOf("p9.9999 is one", 5, tabled(NEW, "table\n1 4\n2 p9.9999\n" + TRAILER));
        goOn("numbers of OBJECTS rise; they are 1 to 60");
        faultOf("alike", 3, tabled(NEW, "table\n1 4\n1 4\n2 39\n" + TRAILER));
        faultOf("alike with 0 ahead", 3, tabled(NEW, "table\n1 4\n01 4\n2 39\n" + TRAILER));
        faultOf("falling", 3, tabled(NEW, "table\n2 39\n1 4\n" + TRAILER));
        faultOf("falling at the end", 3, tabled(NEW, "table\n1 4\n3 -\n2 39\n" + TRAILER));
        faultOf("0", 3, tabled(NEW, "table\n0 -\n1 4\n2 39\n" + TRAILER));
        faultOf("60", 0, tabled(NEW, "table\n1 4\n2 39\n60 -\n" + TRAILER));
        faultOf("61", 3, tabled(NEW, "table\n1 4\n2 39\n61 -\n" + TRAILER));
        StringBuilder all = new StringBuilder("table\n1 4\n2 39\n");
        for (int n = 3; n <= 60; n++) {
            all.append(n).append(" -\n");
        }
        faultOf("all 60", 0, tabled(NEW, all + TRAILER));
        faultOf("one more than 60", 3, tabled(NEW, all + "60 -\n" + TRAILER));
    }

    private void behindTrailers() {
        start("the TRAILER is READ as a VALUE, with BLANKS and NEWLINES as READ lets, also ahead of it");
        for (String trailer : new String[] {"<</Root 1 R>>", " <</Root 1 R>>", "\n\n <</Root 1 R>>", "<<\n/Root\n01   R\n >>",
            "<</Size(x)/Root 1 R/Prev null>>", "<</Root 5/Root 1 R>>"}) {
            faultOf(trailer, 0, tabled(NEW, LINES + "last\n" + trailer + "\n"));
        }
        goOn("3: behind it no TABLE in its form to the letter; what \"start\" tells there does not matter");
        for (String rest : new String[] {"\nstart\n0\n%E\n", "\nstart\n9999\n%E\n", "\nstart\n0000\n%E\n", "\n"}) {
            faultOf(rest, 0, NEW + LINES + "last\n<</Root 1 R>>" + rest + "start\n81\n%E\n");
        }
        for (String rest : new String[] {"", " \n", "\n\n", "\n ", "x\n", "\nstart\n\n%E\n", "\nstart\n00000\n%E\n",
            "\nstart\n81\n%e\n", "\nstart\n81\n%E", "\nstart\n81 \n%E\n", "\nstart\n-1\n%E\n", "\nstart \n", "\nstart\n81\n"}) {
            faultOf(rest, 3, NEW + LINES + "last\n<</Root 1 R>>" + rest + "start\n81\n%E\n");
        }
    }

    private void trailers() {
        start("4: where a TRAILER has to be stands no VALUE, or no BOOK, or (that of the newest) one without a REF as Root");
        String eleven = "/A 1/B 1/C 1/D 1/E 1/F 1/G 1/H 1/I 1/J 1/Root 1 R";
        for (String trailer : new String[] {"<</Root 1 R>", "<</Root 1 R", "<</Root 1 R/A>>", "", "x", "<", "<</Root 61 R>>",
            "<</Root 0 R>>", "<<" + eleven + ">>", "null", "1 R", "5", "[1 R]", "(<</Root 1 R>>)", "/Root", "<<>>",
            "<</Root 1>>", "<</Root/A>>", "<</Root[1 R]>>", "<</Root null>>", "<</Root 1 R/Root null>>", "<</root 1 R>>",
            "<</Root(1 R)>>"}) {
            faultOf(trailer, 4, tabled(NEW, LINES + "last\n" + trailer + "\n"));
        }
        faultOf("10 NAMES", 0, tabled(NEW, LINES + "last\n<<" + eleven.substring(4) + ">>\n"));
        goOn("what stands behind a TRAILER that is none, or of the newest has no such Root, is not looked at");
        faultOf("no VALUE", 4, NEW + LINES + "last\n<</Root 1 R]x start\n81\n%E\n");
        faultOf("no BOOK", 4, NEW + LINES + "last\n[]x start\n81\n%E\n");
        faultOf("no Root", 4, NEW + LINES + "last\n<<>>x start\n81\n%E\n");
        faultOf("a Root", 3, NEW + LINES + "last\n<</Root 1 R>>x start\n81\n%E\n");
    }

    private void previous() {
        start("4: its \"Prev\" (if it has one) is no place of a TABLE ahead of this one, read so");
        String older = tabled(NEW, LINES + TRAILER);
        for (String prev : new String[] {"1 R", "(81)", "/A", "[81]", "-1", "-81", "0", "4", "39", "80", "82", "9999", "true",
            "<<>>"}) {
            faultOf("Prev " + prev, 4, tabled(older, "table\nlast\n<</Root 1 R/Prev " + prev + ">>\n"));
        }
        faultOf("Prev 81", 0, tabled(older, "table\nlast\n<</Root 1 R/Prev 81>>\n"));
        faultOf("Prev 0081", 0, tabled(older, "table\nlast\n<</Root 1 R/Prev 0081>>\n"));
        faultOf("Prev null", 6, tabled(older, "table\nlast\n<</Root 1 R/Prev null>>\n"));
        String early = tabled("%D1\n" + body(1, "null"), "table\n1 4\nlast\n<</Root 1 R>>\n");
        faultOf("Prev 17", 0, tabled(early, "table\nlast\n<</Root 1 R/Prev 17>>\n"));
        faultOf("Prev 17 R", 4, tabled(early, "table\nlast\n<</Root 1 R/Prev 17 R>>\n"));
        goOn("ahead of this one");
        faultOf("itself", 4, tabled(older, "table\nlast\n<</Root 1 R/Prev " + older.length() + ">>\n"));
        String first = NEW + LINES + "last\n<</Root 1 R/Prev 141>>\nstart\n81\n%E\n";
        String second = "table\n1 4\n2 39\nlast\n<</Root 1 R>>\nstart\n81\n%E\n";
        faultOf("behind it", 4, first.replace("141", "" + first.length()) + second);
        faultOf("the one behind it alone", 0, first.replace("/Prev 141", "/Prew 141") + second);
        String third = tabled(older, "table\nlast\n<</Root 1 R/Prev 81>>\n");
        faultOf("three", 0, tabled(third, "table\nlast\n<</Root 1 R/Prev " + older.length() + ">>\n"));
        faultOf("the last of three", 4, tabled(third.replace("/Prev 81", "/Prev 82"),
                "table\nlast\n<</Root 1 R/Prev " + older.length() + ">>\n"));
        faultOf("the second of three is itself ahead", 4, tabled(third.replace("/Prev 81", "/Prev " + older.length()),
                "table\nlast\n<</Root 1 R/Prev " + older.length() + ">>\n"));
    }

    private void older() {
        start("4: an older TABLE, read so");
        String newest = "table\nlast\n<</Root 1 R/Prev 81>>\n";
        faultOf("without a Root", 0, tabled(tabled(NEW, LINES + "last\n<<>>\n"), newest));
        faultOf("with another Root", 0, tabled(tabled(NEW, LINES + "last\n<</Root 9 R>>\n"), newest));
        faultOf("no BOOK", 4, tabled(tabled(NEW, LINES + "last\n[]\n"), newest));
        faultOf("no VALUE", 4, tabled(tabled(NEW, LINES + "last\nx\n"), newest));
        faultOf("a line", 4, tabled(tabled(NEW, "table\n1  4\n2 39\n" + TRAILER), newest));
        faultOf("behind its TRAILER", 4, tabled(tabled(NEW, LINES + "last\n<<>> \n"), newest));
        faultOf("its Prev", 4, tabled(tabled(NEW, LINES + "last\n<</Prev 4>>\n"), newest));
        faultOf("its Prev is no INTEGER", 4, tabled(tabled(NEW, LINES + "last\n<</Prev(x)>>\n"), newest));
        goOn("Of OBJECTS the newest TABLE that names one counts (\"-\": it is not there)");
        String old = tabled(NEW + body(3, "(old)") + body(3, "(new)"), "table\n1 4\n2 39\n3 81\n" + TRAILER);
        int prev = old.indexOf("table");
        file(0, tabled(old, "table\nlast\n<</Root 1 R/Prev " + prev + ">>\n"));
        due("the older one", 3, x -> x.read(0, 0));
        due("OBJECT 3", "(old)", x -> x.object(0, 3));
        file(0, tabled(old, "table\n3 " + old.indexOf("3 o\n(new)") + "\nlast\n<</Root 1 R/Prev " + prev + ">>\n"));
        due("the newest one", 3, x -> x.read(0, 0));
        due("OBJECT 3", "(new)", x -> x.object(0, 3));
        file(0, tabled(old, "table\n3 -\nlast\n<</Root 1 R/Prev " + prev + ">>\n"));
        due("it is gone", 2, x -> x.read(0, 0));
        due("OBJECT 3", "", x -> x.object(0, 3));
        String gone = tabled(old, "table\n2 -\n3 -\nlast\n<</Root 1 R/Prev " + prev + ">>\n");
        file(0, tabled(gone, "table\n3 81\nlast\n<</Root 1 R/Prev " + old.length() + ">>\n"));
        due("it is there again", 2, x -> x.read(0, 0));
        due("OBJECT 3", "(old)", x -> x.object(0, 3));
        due("OBJECT 2", "", x -> x.object(0, 2));
        goOn("5: of an OBJECT for which it counts");
        String wrong = tabled(NEW, "table\n1 4\n2 39\n3 5\n" + TRAILER);
        faultOf("it counts", 5, tabled(wrong, "table\nlast\n<</Root 1 R/Prev 81>>\n"));
        faultOf("it does not count", 0, tabled(wrong, "table\n3 -\nlast\n<</Root 1 R/Prev 81>>\n"));
        faultOf("that of the newer one counts", 5, tabled(tabled(NEW, LINES + TRAILER),
                "table\n2 5\nlast\n<</Root 1 R/Prev 81>>\n"));
    }

    private void bodyFault(String what, int want, String body) {
        faultOf(what, want, tabled("%D1\n" + body, "table\n1 4\nlast\n<</Root 1 R>>\n"));
    }

    private void bodies() {
        start("5: where a TABLE tells a BODY there is none of that number");
        for (int place : new int[] {0, 3, 5, 40, 38, 81, 92, 500, 9999}) {
            faultOf("at " + place, 5, tabled(NEW, "table\n1 4\n2 " + place + "\n" + TRAILER));
        }
        faultOf("of another number", 5, tabled(NEW, "table\n1 39\n2 39\n" + TRAILER));
        goOn("its number (READ: 1 to 4 digits, 0 may stand ahead)");
        bodyFault("1", 0, "1 o\n5\nend\n");
        bodyFault("0001", 0, "0001 o\n5\nend\n");
        bodyFault("00001", 5, "00001 o\n5\nend\n");
        bodyFault("none", 5, " o\n5\nend\n");
        goOn("5: in its form to the letter, but its VALUE with BLANKS and NEWLINES as READ lets, also ahead of it");
        for (String body : new String[] {"1 o\n 5\nend\n", "1 o\n\n\n5\nend\n", "1 o\n[ 5\n]\nend\n", "1 o\nnull\nend\n",
            "1 o\n<</Len 3>>\nend\n", "1 o\n3   R\nend\n", "1 o\n007\nend\n"}) {
            bodyFault(body, 0, body);
        }
        for (String body : new String[] {"1  o\n5\nend\n", "1o\n5\nend\n", "1 o5\nend\n", "1 o \n5\nend\n", "1 O\n5\nend\n",
            " 1 o\n5\nend\n", "1 o\n5 \nend\n", "1 o\n5\n\nend\n", "1 o\n5\n end\n", "1 o\n5\nend \n", "1 o\n5\nEnd\n",
            "1 o\n5end\n", "1 o\n5\nendtable", "1 o\n\nend\n", "1 o\nx\nend\n", "1 o\n5 5\nend\n", "1 o\n12345\nend\n",
            "1 o\n[[[[[[]]]]]]\nend\n", "1 o\n(a\nend\n", "2 o\n5\nend\n", "1 o\n3\nR\nend\n"}) {
            bodyFault(body, 5, body);
        }
    }

    private void streams() {
        start("5: of a STREAM its BOOK, with \"Len\" as how many SIGNS DATA has, NEWLINE, \"data\", NEWLINE, DATA");
        for (String body : new String[] {"1 o\n<</Len 3>>\ndata\nabc\nend\n", "1 o\n<</Len 0>>\ndata\n\nend\n",
            "1 o\n \n<< /A 1\n/Len 003 >>\ndata\nabc\nend\n", "1 o\n<</Len 5>>\ndata\n\nend\n\nend\n",
            "1 o\n<</Len 4/Len 3>>\ndata\nabc\nend\n", "1 o\n<</Len 10>>\ndata\n2 o\n5\nend\n\nend\n"}) {
            bodyFault(body, 0, body);
        }
        for (String body : new String[] {"1 o\n<</Len 2>>\ndata\nabc\nend\n", "1 o\n<</Len 4>>\ndata\nabc\nend\n",
            "1 o\n<</Len 9999>>\ndata\nabc\nend\n", "1 o\n<</Len -3>>\ndata\nabc\nend\n", "1 o\n<</Len -1>>\ndata\nabc\nend\n",
            "1 o\n<</Len/A>>\ndata\nabc\nend\n", "1 o\n<</Len 3 R>>\ndata\nabc\nend\n", "1 o\n<</Len(3)>>\ndata\nabc\nend\n",
            "1 o\n<</Len[3]>>\ndata\nabc\nend\n", "1 o\n<<>>\ndata\nabc\nend\n", "1 o\n<</Len null>>\ndata\nabc\nend\n",
            "1 o\n<</len 3>>\ndata\nabc\nend\n", "1 o\n[3]\ndata\nabc\nend\n", "1 o\nnull\ndata\nabc\nend\n",
            "1 o\n<</Len 3>> \ndata\nabc\nend\n", "1 o\n<</Len 3>>\n data\nabc\nend\n", "1 o\n<</Len 3>>\ndata \nabc\nend\n",
            "1 o\n<</Len 3>>\nData\nabc\nend\n", "1 o\n<</Len 3>>\ndata\nabcend\n", "1 o\n<</Len 3>>\ndata\nabc\nend",
            "1 o\n<</Len 3>>\ndata\nabc\n\nend\n", "1 o\n<</Len 3>>\ndata\nab\nend\n"}) {
            bodyFault(body, 5, body);
        }
        goOn("DATA (a text of at most 500 SIGNS)");
        bodyFault("500", 0, body(1, "", times(500, "a")));
        bodyFault("501", 5, body(1, "", times(501, "a")));
        goOn("a BOOK (without \"Len\", of at most 9 NAMES)");
        String nine = "/A 1/B 1/C 1/D 1/E 1/F 1/G 1/H 1/I 1";
        bodyFault("9", 0, body(1, nine, "abc"));
        bodyFault("10", 5, body(1, nine + "/J 1", "abc"));
        file(0, tabled("%D1\n" + body(1, nine, "abc"), "table\n1 4\nlast\n<</Root 1 R>>\n"));
        due("READ", 1, x -> x.read(0, 0));
        due("without Len", "<<" + nine.replace("1/", "1 /") + ">> data", x -> x.object(0, 1));
        due("DATA", "abc", x -> x.data(0, 1, false));
    }

    private static final String PAIR = "1 <</A 1>>\n2 (b)\n";

    /** A FILE of a PACK of number 9, with these lines of a TABLE. */
    private static String packed(String names, String data, String lines) {
        return tabled("%D1\n" + body(9, names, data), "table\n" + lines + "last\n<</Root 1 R>>\n");
    }

    private void packFault(String what, int want, String data, String lines) {
        faultOf(what, want, packed("/Kind/Pack", data, lines));
    }

    private void packs() {
        start("5: a PACK is none (no STREAM of Kind /Pack, BROKEN)");
        packFault("so", 0, PAIR, "1 p9.0\n2 p9.1\n9 4\n");
        faultOf("no Count is needed, any is right", 0, packed("/Kind/Pack/Count(x)", PAIR, "1 p9.0\n9 4\n"));
        faultOf("another Kind", 5, packed("/Kind/Packs", PAIR, "1 p9.0\n9 4\n"));
        faultOf("no Kind", 5, packed("", PAIR, "1 p9.0\n9 4\n"));
        faultOf("no NAME as Kind", 5, packed("/Kind(Pack)", PAIR, "1 p9.0\n9 4\n"));
        faultOf("no STREAM", 5, tabled("%D1\n" + body(9, "<</Kind/Pack>>"), "table\n1 p9.0\n9 4\nlast\n<</Root 1 R>>\n"));
        faultOf("BROKEN", 5, packed("/Kind/Pack/Filter/Hex", PAIR, "1 p9.0\n9 4\n"));
        faultOf("filtered", 0, packed("/Kind/Pack/Filter/Run", "1 (~3a)\n", "1 p9.0\n9 4\n"));
        faultOf("another BODY there", 5, packed("/Kind/Pack", PAIR, "1 p9.0\n8 4\n"));
        goOn("5: of which the same TABLE has to tell a place");
        packFault("none", 5, PAIR, "1 p9.0\n");
        packFault("gone", 5, PAIR, "1 p9.0\n9 -\n");
        packFault("packed itself", 5, PAIR, "1 p9.0\n9 p9.0\n");
        packFault("a wrong place", 5, PAIR, "1 p9.0\n9 5\n");
        packFault("number 0", 5, PAIR, "1 p0.0\n9 4\n");
        faultOf("number 60", 0, tabled("%D1\n" + body(60, "/Kind/Pack", PAIR), "table\n1 p60.0\n60 4\nlast\n<</Root 1 R>>\n"));
        faultOf("number 1", 0, tabled("%D1\n" + body(1, "/Kind/Pack", PAIR), "table\n1 4\n2 p1.1\nlast\n<</Root 2 R>>\n"));
        packFault("number 60, not told", 5, PAIR, "1 p60.0\n9 4\n");
        packFault("number 61", 5, PAIR, "1 p61.0\n9 4\n");
        packFault("number 9999", 5, PAIR, "1 p9999.0\n9 4\n");
        packFault("with 0 ahead", 0, PAIR, "1 p0009.0000\n9 0004\n");
        String old = packed("/Kind/Pack", PAIR, "1 p9.0\n9 4\n");
        String prev = "last\n<</Root 1 R/Prev " + old.indexOf("table") + ">>\n";
        faultOf("an older one tells it", 5, tabled(old, "table\n2 p9.1\n" + prev));
        faultOf("both tell it", 0, tabled(old, "table\n2 p9.1\n9 4\n" + prev));
        faultOf("gone in the newest, but of an older one", 0, tabled(old, "table\n9 -\n" + prev));
        goOn("STREAMS of Kind /Pack are no OBJECTS of the DOCUMENT");
        file(0, packed("/Kind/Pack", PAIR, "1 p9.0\n2 p9.1\n9 4\n"));
        due("two OBJECTS", 2, x -> x.read(0, 0));
        due("no OBJECT 9", "", x -> x.object(0, 9));
        file(0, tabled(NEW + body(9, "<</Kind/Pack>>"), "table\n1 4\n2 39\n9 81\n" + TRAILER));
        due("a BOOK of that Kind is one", 3, x -> x.read(0, 0));
    }

    private void packPlaces() {
        start("5: without that place, or there, or ahead of it, stands nothing in its form, or another number stands there");
        packFault("the last place", 0, PAIR, "1 p9.0\n2 p9.1\n9 4\n");
        packFault("one behind", 5, PAIR, "1 p9.0\n2 p9.2\n9 4\n");
        packFault("far behind", 5, PAIR, "1 p9.0\n2 p9.9999\n9 4\n");
        packFault("another number there", 5, PAIR, "1 p9.1\n9 4\n");
        packFault("another number there, too", 5, PAIR, "1 p9.0\n2 p9.0\n9 4\n");
        packFault("a number that falls", 0, "2 (b)\n1 <</A 1>>\n", "1 p9.1\n2 p9.0\n9 4\n");
        packFault("two of one number", 0, "1 (a)\n1 (b)\n", "1 p9.1\n9 4\n");
        packFault("READ as those of a BODY", 0, "0001 \n [ 1\n]\n02  5\n", "1 p9.0\n2 p9.1\n9 4\n");
        packFault("five digits", 5, "00001 5\n", "1 p9.0\n9 4\n");
        packFault("no number", 5, "x 5\n", "1 p9.0\n9 4\n");
        packFault("no BLANK", 5, "1\n5\n", "1 p9.0\n9 4\n");
        packFault("no VALUE", 5, "1 x\n", "1 p9.0\n9 4\n");
        packFault("something behind the VALUE", 5, "1 5 \n", "1 p9.0\n9 4\n");
        packFault("no NEWLINE", 5, "1 5", "1 p9.0\n9 4\n");
        packFault("a BLANK ahead", 5, " 1 5\n", "1 p9.0\n9 4\n");
        packFault("an empty TEXT", 5, "", "1 p9.0\n9 4\n");
        packFault("wrong ahead of it", 5, "3 x\n1 5\n", "1 p9.1\n9 4\n");
        packFault("no NEWLINE ahead of it", 5, "3 4 1 5\n", "1 p9.1\n9 4\n");
        packFault("wrong behind it", 0, "1 5\n3 x\n", "1 p9.0\n9 4\n");
        packFault("number 0 ahead of it", 5, "0 5\n1 5\n", "1 p9.1\n9 4\n");
        packFault("number 61 ahead of it", 5, "61 5\n1 5\n", "1 p9.1\n9 4\n");
        packFault("number 60 ahead of it", 0, "60 5\n1 5\n", "1 p9.1\n9 4\n");
        file(0, packed("/Kind/Pack", "1 (a)\n1 (b)\n", "1 p9.1\n9 4\n"));
        due("two of one number", 1, x -> x.read(0, 0));
        due("that of the place", "(b)", x -> x.object(0, 1));
    }

    private void roots() {
        start("6: the Root is no OBJECT that is there");
        faultOf("there", 0, tabled(NEW, LINES + "last\n<</Root 2 R>>\n"));
        faultOf("not told", 6, tabled(NEW, LINES + "last\n<</Root 3 R>>\n"));
        faultOf("60 is not told", 6, tabled(NEW, LINES + "last\n<</Root 60 R>>\n"));
        faultOf("gone", 6, tabled(NEW, "table\n1 -\n2 39\n" + TRAILER));
        faultOf("a PACK", 6, packed("/Kind/Pack", PAIR, "9 4\n"));
        faultOf("packed", 0, packed("/Kind/Pack", PAIR, "1 p9.0\n9 4\n"));
        faultOf("number 60", 0, tabled("%D1\n" + body(60, "null"), "table\n60 4\nlast\n<</Root 60 R>>\n"));
        faultOf("no BOOK", 0, tabled("%D1\n" + body(1, "(x)"), "table\n1 4\nlast\n<</Root 1 R>>\n"));
    }

    private void cuts() {
        start("a FILE that was cut");
        String whole = tabled(NEW, LINES + TRAILER);
        for (int by = 1; by < whole.length(); by++) {
            int length = whole.length() - by;
            back();
            file(0, whole);
            does(x -> x.cut(0, length));
            due("FAULT of " + length, length < 4 ? 1 : 2, x -> x.faultOf(0));
            int bodies = length < 39 ? 0 : length < 81 ? 1 : 2;
            due("REPAIR of " + length, bodies == 0 ? -9 : bodies, x -> x.repair(0, 0));
        }
    }

    private void sequence() {
        start("the first FAULT that is so");
        faultOf("1 and 2", 1, "x");
        faultOf("2 and 3", 2, "%D1\nstart\n00081\n%E\n");
        faultOf("3 and 4", 3, tabled(NEW, "table\n1  4\nlast\n<<>>\n"));
        faultOf("4 and 5", 4, tabled(NEW, "table\n1 5\nlast\n<</Root 1 R/Prev 4>>\n"));
        faultOf("5 and 6", 5, tabled(NEW, "table\n1 4\n2 5\nlast\n<</Root 9 R>>\n"));
    }

    private void reads() {
        start("Returns how many OBJECTS it has; a CHANGE, if there is no FAULT; HOME is that FILE then");
        file(3, tabled(NEW, LINES + TRAILER));
        due("two", 2, x -> x.read(3, 1));
        due("a CHANGE", 1, x -> x.house(2));
        due("HOME", 3, x -> x.ofDoc(1, 8));
        due("the other one has none", -1, x -> x.ofDoc(0, 8));
        due("undone", 0, Pagedocument::undo);
        due("no HOME", -1, x -> x.ofDoc(1, 8));
        StringBuilder bodies = new StringBuilder("%D1\n");
        StringBuilder table = new StringBuilder("table\n");
        for (int n = 1; n <= 60; n++) {
            table.append(n).append(' ').append(bodies.length()).append('\n');
            bodies.append(body(n, "" + n));
        }
        file(3, tabled(bodies.toString(), table + "last\n<</Root 60 R>>\n"));
        due("60", 60, x -> x.read(3, 1));
        due("ROOT", 60, x -> x.ofDoc(1, 3));
        due("the last one", "60", x -> x.object(1, 60));
        goOn("6000 SIGNS");
        String text = tabled("%D1\n" + body(1, "null") + times(5940, "x"), "table\n1 4\nlast\n<</Root 1 R>>\n");
        file(3, text);
        due("so long", 6000, x -> x.size(3));
        due("READ", 1, x -> x.read(3, 0));
        due("UPDATE of nothing", 0, x -> x.update(0));
        does(x -> x.lock(0, 1, 1));
        refused("UPDATE beyond it", x -> x.update(0));
    }

    private void lockIs(String lock, int want) {
        back();
        file(0, tabled(NEW, LINES + "last\n<</Root 1 R" + lock + ">>\n"));
        due("READ with " + lock, 2, x -> x.read(0, 0));
        due("LOCK by " + lock, want < 0 ? 0 : 1, x -> x.ofDoc(0, 6));
        due("Lets by " + lock, want < 0 ? 7 : want, x -> x.ofDoc(0, 9));
        due("OPEN by " + lock, want < 0 ? 1 : 0, x -> x.ofDoc(0, 7));
    }

    private void locks() {
        start("In a FILE: \"Lock\" in the TRAILER, <</Code n /Lets n>>; what is not so (two INTEGERS) counts as no LOCK");
        lockIs("", -1);
        lockIs("/Lock<</Code 10/Lets 7>>", 7);
        lockIs("/Lock<</Lets 0/Code 96>>", 0);
        lockIs("/Lock<</Code 10>>", -1);
        lockIs("/Lock<</Lets 1>>", -1);
        lockIs("/Lock<<>>", -1);
        lockIs("/Lock<</Code/A/Lets 1>>", -1);
        lockIs("/Lock<</Code 10/Lets(1)>>", -1);
        lockIs("/Lock<</Code 1 R/Lets 1>>", -1);
        lockIs("/Lock<</Code 10/Lets 1 R>>", -1);
        lockIs("/Lock<</Code[10]/Lets 1>>", -1);
        lockIs("/Lock[10 1]", -1);
        lockIs("/Lock 10", -1);
        lockIs("/Lock null", -1);
        goOn("that of the newest TABLE counts");
        String old = tabled(NEW, LINES + "last\n<</Root 1 R/Lock<</Code 10/Lets 7>>>>\n");
        file(0, tabled(old, "table\nlast\n<</Root 1 R/Prev 81>>\n"));
        does(x -> x.read(0, 0));
        due("no LOCK", 0, x -> x.ofDoc(0, 6));
        goOn("OPEN as one tells a KEY with that Code, till it is READ");
        lockIs("/Lock<</Code 10/Lets 0>>", 0);
        due("another KEY", 0, x -> x.open(0, 2));
        due("the KEY", 1, x -> x.open(0, 1));
        due("READ again", 2, x -> x.read(0, 0));
        due("not OPEN", 0, x -> x.ofDoc(0, 7));
    }

    private static final String START = body(1, "<</Kind/Root>>");

    private void repairIs(String what, String text, int object, String want) {
        back();
        file(0, START + text);
        does(x -> x.repair(0, 0));
        due(what, want, x -> x.object(0, object));
    }

    private void repairBodies() {
        start("at the begin of each line: if a BODY stands there whole, it is an OBJECT");
        repairIs("a BODY", "3 o\n5\nend\n", 3, "5");
        repairIs("behind what is none", "x\n\n 1\n3 o\n5\nend\n", 3, "5");
        repairIs("not at the begin of a line", " 3 o\n5\nend\n", 3, "");
        repairIs("not at the begin of a line", "x3 o\n5\nend\n", 3, "");
        repairIs("not whole", "3 o\n5\nend", 3, "");
        repairIs("not whole", "3 o\n5 \nend\n", 3, "");
        repairIs("0 ahead", "0003 o\n\n5\nend\n", 3, "5");
        repairIs("five digits", "00003 o\n5\nend\n", 3, "");
        repairIs("60", "60 o\n5\nend\n", 60, "5");
        file(0, START + "0 o\n5\nend\n61 o\n5\nend\n9999 o\n5\nend\n");
        due("0 and 61", 1, x -> x.repair(0, 0));
        repairIs("in what has number 0", body(0, "", "\n3 o\n5\nend\n"), 3, "5");
        repairIs("in what has number 61", body(61, "", "\n3 o\n5\nend\n"), 3, "5");
        repairIs("a colon is no digit", "3: o\n5\nend\n", 40, "");
        goOn("of a number that came already the later one counts");
        repairIs("the later one", "3 o\n5\nend\n3 o\n6\nend\n", 3, "6");
        repairIs("the last whole one", "3 o\n5\nend\n3 o\n6\nend\n3 o\n7\n", 3, "6");
        repairIs("a STREAM", "3 o\n5\nend\n03 o\n<</Len 0>>\ndata\n\nend\n", 3, "<<>> data");
        goOn("and one goes on behind it; otherwise with the next line");
        repairIs("in DATA", body(4, "", "\n3 o\n5\nend\n"), 3, "");
        repairIs("in what is not whole", "4 o\n<</Len 12>>\ndata\n\n3 o\n5\nend\n\nend\n", 3, "5");
        repairIs("behind DATA", body(4, "", "\n3 o\n5\nend\n") + "3 o\n6\nend\n", 3, "6");
        repairIs("behind \"end\"", "4 o\n5\nend\n3 o\n6\nend\n", 3, "6");
        repairIs("the line of a number alone", "4\n3 o\n6\nend\n", 3, "6");
        repairIs("in a VALUE that is not whole", "4 o\n[\n3 o\n6\nend\n", 3, "6");
    }

    private void repairStreams() {
        start("DATA as long as \"Len\" tells; no STREAM of Kind /Pack is an OBJECT itself");
        repairIs("a STREAM", body(3, "/A 1", "abc"), 3, "<</A 1>> data");
        repairIs("Len too great", "3 o\n<</Len 4>>\ndata\nabc\nend\n", 3, "");
        repairIs("Len below 0", "3 o\n<</Len -1>>\ndata\nabc\nend\n", 3, "");
        repairIs("500", body(3, "", times(500, "a")), 3, "<<>> data");
        repairIs("501", body(3, "", times(501, "a")), 3, "");
        repairIs("of Kind /Pack", body(3, "/Kind/Pack", "4 5\n"), 3, "");
        repairIs("BROKEN, of Kind /Pack", body(3, "/Kind/Pack/Filter/Hex", "4 5\n"), 3, "");
        repairIs("BROKEN, it gives none", body(3, "/Kind/Pack/Filter/Hex", "4 5\n"), 4, "");
        repairIs("a BOOK of Kind /Pack", body(3, "<</Kind/Pack>>"), 3, "<</Kind /Pack>>");
        repairIs("a PACK in place of an OBJECT", "3 o\n5\nend\n" + body(3, "/Kind/Pack", "4 5\n"), 3, "");
        repairIs("an OBJECT in place of a PACK", body(3, "/Kind/Pack", "4 5\n") + "3 o\n5\nend\n", 3, "5");
        repairIs("that PACK gives none", body(3, "/Kind/Pack", "4 5\n") + "3 o\n5\nend\n", 4, "");
    }

    private void repairPacks() {
        start("Those of Kind /Pack then give their OBJECTS (up to the first line that is not right)");
        repairIs("one", body(9, "/Kind/Pack", "4 5\n"), 4, "5");
        repairIs("filtered", body(9, "/Kind/Pack/Filter/Run", "4 ~35\n"), 4, "555");
        repairIs("60", body(60, "/Kind/Pack", "59 5\n"), 59, "5");
        rootIs("1", body(1, "/Kind/Pack", "4 <</Kind/Root>>\n"), 4);
        repairIs("READ as a BODY", body(9, "/Kind/Pack", "0004 \n[ 5\n]\n"), 4, "[5]");
        repairIs("the last line without NEWLINE", body(9, "/Kind/Pack", "4 5"), 4, "");
        repairIs("ahead of what is not right", body(9, "/Kind/Pack", "4 5\n61 5\n3 6\n"), 4, "5");
        repairIs("behind what is not right", body(9, "/Kind/Pack", "4 5\n61 5\n3 6\n"), 3, "");
        repairIs("behind number 0", body(9, "/Kind/Pack", "0 5\n3 6\n"), 3, "");
        repairIs("behind two BLANKS at the end", body(9, "/Kind/Pack", "4 5  \n3 6\n"), 3, "");
        goOn("of two alike ones in a PACK the later one");
        repairIs("the later one", body(9, "/Kind/Pack", "4 5\n4 6\n"), 4, "6");
        repairIs("numbers that fall", body(9, "/Kind/Pack", "5 1\n4 2\n3 3\n"), 3, "3");
        goOn("if no BODY has that number");
        repairIs("a BODY ahead", "4 o\n7\nend\n" + body(9, "/Kind/Pack", "4 5\n"), 4, "7");
        file(0, "4 o\n<</Kind/Root>>\nend\n" + body(9, "/Kind/Pack", "4 5\n"));
        due("a BODY at the begin of the FILE", 1, x -> x.repair(0, 0));
        due("it stays", "<</Kind /Root>>", x -> x.object(0, 4));
        repairIs("a BODY behind", body(9, "/Kind/Pack", "4 5\n") + "4 o\n7\nend\n", 4, "7");
        repairIs("the BODY of a PACK", body(9, "/Kind/Pack", "9 5\n"), 9, "");
        repairIs("the BODY of another PACK", body(9, "/Kind/Pack", "8 5\n") + body(8, "/Kind/Pack/Filter/Hex", ""), 8, "");
        goOn("by rising numbers of PACKS (a later one counts)");
        repairIs("10 behind 9", body(10, "/Kind/Pack", "4 (ten)\n") + body(9, "/Kind/Pack", "4 (nine)\n"), 4, "(ten)");
        repairIs("1 BODY of a PACK twice", body(9, "/Kind/Pack", "4 5\n") + body(9, "/Kind/Pack", "3 6\n"), 4, "");
    }

    private void rootIs(String what, String text, int want) {
        back();
        file(0, text);
        does(x -> x.repair(0, 0));
        due(what, want, x -> x.ofDoc(0, 3));
    }

    private void repairTrailers() {
        start("ROOT: the Root of the last TRAILER that stands whole at the begin of a line to which one came so");
        String two = START + body(3, "(x)");
        rootIs("a TRAILER", two + "<</Root 3 R>>\n", 3);
        rootIs("the last one", two + "<</Root 1 R>>\n<</Root 3 R>>\n", 3);
        rootIs("the last one, of a smaller number", two + body(2, "(y)") + "<</Root 3 R>>\n<</Root 2 R>>\n", 2);
        rootIs("the last one, of the smallest number", two + "<</Root 3 R>>\n<</Root 1 R>>\n", 1);
        rootIs("ahead of all", "<</Root 3 R>>\n" + two, 3);
        rootIs("BLANKS ahead", two + "   <</Root 3 R>>\n", 3);
        rootIs("NEWLINES ahead", two + "\n \n<</Root 3 R>>\n", 3);
        rootIs("without NEWLINE behind", two + "<</Root 3 R>>", 3);
        rootIs("whatever is behind it", two + "<</Root 3 R>>xyz\n", 3);
        rootIs("over lines", two + "<<\n/A 1\n/Root 3 R\n>>\n", 3);
        rootIs("not at the begin of a line", two + "x<</Root 3 R>>\n", 1);
        rootIs("not whole", two + "<</Root 3 R>\n", 1);
        rootIs("no BOOK", two + "[<</Root 3 R>>]\n", 1);
        rootIs("a BOOK in it at the begin of a line", two + "[\n<</Root 3 R>>]\n", 3);
        rootIs("no REF", two + "<</Root 3>>\n", 1);
        rootIs("no Root", two + "<</Rot 3 R>>\n", 1);
        rootIs("a later one without a Root", two + "<</Root 3 R>>\n<<>>\n<</Root 5>>\n", 3);
        goOn("to an OBJECT that is there");
        rootIs("none is there", two + "<</Root 3 R>>\n<</Root 4 R>>\n<</Root 60 R>>\n", 3);
        rootIs("a PACK", two + body(9, "/Kind/Pack", "4 5\n") + "<</Root 3 R>>\n<</Root 9 R>>\n", 3);
        rootIs("of a PACK", two + body(9, "/Kind/Pack", "4 5\n") + "<</Root 4 R>>\n", 4);
        rootIs("60", body(60, "null") + "<</Root 60 R>>\n", 60);
        rootIs("it comes behind the TRAILER", "<</Root 5 R>>\n" + two + body(5, "(y)"), 5);
        goOn("of no line within a BODY that stands whole");
        rootIs("in DATA", two + "<</Root 3 R>>\n" + body(4, "", "\n<</Root 1 R>>\n"), 3);
        rootIs("a VALUE of a BODY", two + "<</Root 3 R>>\n" + body(4, "<</Root 1 R>>"), 3);
        rootIs("of a BODY that is not whole", two + "<</Root 1 R>>\n4 o\n<</Root 3 R>>\nend", 3);
    }

    private void repairRoots() {
        start("otherwise the first OBJECT that is a BOOK with Kind /Root");
        rootIs("the first", body(5, "<</Kind/Root>>") + body(4, "<</Kind/Root>>"), 4);
        rootIs("60", body(60, "<</Kind/Root>>"), 60);
        rootIs("of a PACK", body(9, "/Kind/Pack", "4 <</Kind/Root>>\n"), 4);
        rootIs("no STREAM", body(3, "/Kind/Root", "") + body(4, "<</Kind/Root>>"), 4);
        rootIs("another Kind", body(3, "<</Kind/Roots>>") + body(4, "<</Kind/Root>>"), 4);
        rootIs("no NAME", body(3, "<</Kind(Root)>>") + body(4, "<</Kind/Root>>"), 4);
        goOn("without one: REFUSED");
        file(0, body(3, "<</Kind/Tree>>") + body(4, "/Kind/Root", "") + "<</Root 5 R>>\n");
        refused("none", x -> x.repair(0, 0));
        file(0, "");
        refused("an empty FILE", x -> x.repair(0, 0));
        file(0, "x\n\n");
        refused("no BODY", x -> x.repair(0, 0));
    }

    private void repairs() {
        start("Returns how many OBJECTS it has; a CHANGE; without a HOME and a LOCK");
        does(x -> x.lock(1, 5, 0));
        does(x -> x.write(1, 3, false));
        due("two", 2, x -> x.repair(3, 1));
        due("no HOME", -1, x -> x.ofDoc(1, 8));
        due("no LOCK", 0, x -> x.ofDoc(1, 6));
        due("OPEN", 1, x -> x.ofDoc(1, 7));
        due("a CHANGE", 2, x -> x.house(2));
        refused("an UPDATE", x -> x.update(1));
        due("undone", 1, Pagedocument::undo);
        due("HOME", 3, x -> x.ofDoc(1, 8));
        due("LOCK", 1, x -> x.ofDoc(1, 6));
        StringBuilder bodies = new StringBuilder();
        for (int n = 60; n >= 1; n--) {
            bodies.append(body(n, n == 7 ? "<</Kind/Root>>" : "" + n));
        }
        file(0, bodies.toString());
        due("60", 60, x -> x.repair(0, 0));
        due("ROOT", 7, x -> x.ofDoc(0, 3));
    }
}
