/** The boundaries of section 2 of the document (filters) and of promises 6, 21 and 26. */
public final class FilterBounds extends Trial {
    private static final int HEX = 0;
    private static final int RUN = 1;
    private static final int BACK = 2;

    public static void main(String[] args) {
        FilterBounds bounds = new FilterBounds();
        bounds.hexMade();
        bounds.hexUndone();
        bounds.runMade();
        bounds.runUndone();
        bounds.backMade();
        bounds.backUndone();
        bounds.filtered();
        bounds.filterOfStreams();
        bounds.lengths();
        bounds.dataAsked();
        bounds.filterCalls();
        bounds.filterRefused();
        bounds.filterLengths();
        bounds.end();
    }

    private void made(int filter, String text, String want) {
        type(text);
        due("made of " + text, want, x -> x.filtered(filter, false));
        type(want);
        due("and undone", text, x -> x.filtered(filter, true));
    }

    private void undone(int filter, String data, String want) {
        type(data);
        idle("undone of " + data, want, x -> x.filtered(filter, true));
    }

    private void hexMade() {
        start("Hex: each SIGN as two digits of its code by 16, all with \">\" behind");
        made(HEX, "", ">");
        made(HEX, "\n", "0a>");
        made(HEX, " ~", "207e>");
        made(HEX, "09AFOaofJK", "30394146" + "4f616f66" + "4a4b>");
        made(HEX, "a>", "613e>");
    }

    private void hexUndone() {
        start("Undone: digits (also \"A\" to \"F\"), BLANKS and NEWLINES between are passed over");
        undone(HEX, "4a4F4A4f>", "JOJO");
        undone(HEX, "4 a\n4  \n f>", "JO");
        for (String sign : new String[] {"g", "G", "@", "`", "/", ":", "x", "-", "~", "<", "("}) {
            undone(HEX, "4" + sign + ">", "-");
            undone(HEX, sign + "41>", "-");
        }
        goOn("up to the first \">\" (what is behind does not matter)");
        undone(HEX, "4a>>xyz", "J");
        undone(HEX, ">4a", "");
        undone(HEX, ">>", "");
        goOn("one digit left: 0 comes behind it");
        undone(HEX, "4a5>", "JP");
        undone(HEX, "2>", " ");
        undone(HEX, "7\n>", "p");
        undone(HEX, "1>", "-");
        undone(HEX, "8>", "-");
        undone(HEX, "0>", "-");
        goOn("no \">\"");
        undone(HEX, "", "-");
        undone(HEX, "4a", "-");
        undone(HEX, "4", "-");
        goOn("a code that is no SIGN");
        for (String code : new String[] {"00", "09", "0b", "1f", "7f", "80", "a0", "ff"}) {
            undone(HEX, "41" + code + ">", "-");
        }
        undone(HEX, "0a20217d7e>", "\n !}~");
    }

    private void runMade() {
        start("Run: 3 to 9 alike SIGNS in a row (as many as there are, 9 at most)");
        made(RUN, "", "");
        made(RUN, "a", "a");
        made(RUN, "aa", "aa");
        made(RUN, "aaa", "~3a");
        made(RUN, times(8, "a"), "~8a");
        made(RUN, times(9, "a"), "~9a");
        made(RUN, times(10, "a"), "~9aa");
        made(RUN, times(11, "a"), "~9aaa");
        made(RUN, times(12, "a"), "~9a~3a");
        made(RUN, times(18, "a"), "~9a~9a");
        made(RUN, "aabbbccdddd", "aa~3bcc~4d");
        made(RUN, "\n\n\n   999", "~3\n~3 ~39");
        goOn("a \"~\" alone (or two): each \"~\" as \"~1~\"");
        made(RUN, "~", "~1~");
        made(RUN, "~~", "~1~~1~");
        made(RUN, "~~~", "~3~");
        made(RUN, "a~b~~c", "a~1~b~1~~1~c");
        made(RUN, times(9, "~"), "~9~");
        made(RUN, times(10, "~"), "~9~~1~");
        made(RUN, times(11, "~"), "~9~~1~~1~");
        made(RUN, times(12, "~"), "~9~~3~");
    }

    private void runUndone() {
        start("Undone: \"~\", a digit 1 to 9, a SIGN: that so often");
        undone(RUN, "~1a", "a");
        undone(RUN, "~2a~9b", "aabbbbbbbbb");
        undone(RUN, "~1~~2~", "~~~");
        undone(RUN, "~3\n", "\n\n\n");
        undone(RUN, "aaaa", "aaaa");
        undone(RUN, "~39", "999");
        for (String sign : new String[] {"0", ":", "/", "a", "~", " ", "-"}) {
            undone(RUN, "~" + sign + "a", "-");
        }
        goOn("a digit too few");
        undone(RUN, "~", "-");
        undone(RUN, "~3", "-");
        undone(RUN, "abc~", "-");
        undone(RUN, "abc~9", "-");
        goOn("more than 500 SIGNS");
        undone(RUN, times(55, "~9a") + "aaaaa", times(500, "a"));
        undone(RUN, times(55, "~9a") + "aaaaaa", "-");
        undone(RUN, times(55, "~9a") + "~5b", times(495, "a") + "bbbbb");
        undone(RUN, times(55, "~9a") + "~6b", "-");
    }

    private void backMade() {
        start("Back: if the 3 to 9 next SIGNS (as many as can be) stand already 1 to 9 SIGNS ago");
        made(BACK, "", "");
        made(BACK, "aaa", "aaa");
        made(BACK, "aaaa", "a^13");
        made(BACK, times(9, "a"), "a^18");
        made(BACK, times(10, "a"), "a^19");
        made(BACK, times(11, "a"), "a^19a");
        made(BACK, times(12, "a"), "a^19aa");
        made(BACK, times(13, "a"), "a^19^13");
        made(BACK, "abab", "abab");
        made(BACK, "ababa", "ab^23");
        made(BACK, "abcab", "abcab");
        made(BACK, "abcabc", "abc^33");
        made(BACK, "abcdefghiabc", "abcdefghi^93");
        made(BACK, "abcdefghijabc", "abcdefghijabc");
        for (int many = 3; many <= 9; many++) {
            made(BACK, "abcdefghi" + "abcdefghi".substring(0, many), "abcdefghi^9" + many);
            made(BACK, "abcdefghi" + "abcdefghi".substring(0, many) + "-", "abcdefghi^9" + many + "-");
        }
        made(BACK, "abcdefghiabcdefghiab", "abcdefghi^99ab");
        made(BACK, "abcdefghiabcdefghiabc", "abcdefghi^99^93");
        goOn("so far back as is least, of the longest ones");
        made(BACK, "abababab", "ab^26");
        made(BACK, "abcxabcabcx", "abcx^43^74");
        made(BACK, "abcabdabcab", "abcabd^65");
        goOn("a \"^\" as \"^00\"; otherwise the SIGN");
        made(BACK, "^", "^00");
        made(BACK, "^^", "^00^00");
        made(BACK, "^^^", "^00^00^00");
        made(BACK, "^^^^", "^00^13");
        made(BACK, "a^ba^ba", "a^00b^34");
        made(BACK, "\n\n\n\n", "\n^13");
    }

    private void backUndone() {
        start("Undone: \"^00\" is \"^\"; \"^\" d n (d and n 1 to 9) copies n SIGNS, one by one, from d ago");
        undone(BACK, "^00", "^");
        undone(BACK, "a^00^11", "a^^");
        undone(BACK, "a^11", "aa");
        undone(BACK, "a^19", times(10, "a"));
        undone(BACK, "ab^21", "aba");
        undone(BACK, "ab^25", "abababa");
        undone(BACK, "abcdefghi^91", "abcdefghia");
        undone(BACK, "abcdefghi^99", "abcdefghiabcdefghi");
        goOn("further back than there is");
        undone(BACK, "^11", "-");
        undone(BACK, "a^21", "-");
        undone(BACK, "abcdefgh^91", "-");
        goOn("a SIGN that can not stand there, a digit too few");
        for (String rest : new String[] {"01", "10", "09", "90", "0", "1", "", "1a", "a1", "1:", ":1", "1/", "/1", "^1",
            "1^", "1 ", " 1"}) {
            undone(BACK, "aaaaaaaaaaaa^" + rest, "-");
        }
        goOn("more than 500 SIGNS");
        undone(BACK, "a" + times(55, "^19") + "aaaa", times(500, "a"));
        undone(BACK, "a" + times(55, "^19") + "aaaaa", "-");
        undone(BACK, "a" + times(55, "^19") + "^14", times(500, "a"));
        undone(BACK, "a" + times(55, "^19") + "^15", "-");
        undone(BACK, "a" + times(55, "^19") + "aaa^00", times(499, "a") + "^");
        undone(BACK, "a" + times(55, "^19") + "aaaa^00", "-");
    }

    private void filtered() {
        start("IllegalArgumentException if filter is not 0 to 2");
        type("abc");
        argument("-1", x -> x.filtered(-1, false));
        argument("3", x -> x.filtered(3, true));
        idle("0", "616263>", x -> x.filtered(0, false));
        idle("2", "abc", x -> x.filtered(2, true));
        type(times(200, "a"));
        idle("200 SIGNS by Hex", 401, x -> x.filtered(0, false).length());
        type(times(100, "~^"));
        idle("200 SIGNS by Run", 400, x -> x.filtered(1, false).length());
    }

    /** TEXT of a STREAM that has this in its BOOK, and these DATA. */
    private void textOf(String names, String data, String want) {
        back();
        repaired(body(1, "<</Kind/Root>>") + body(3, names, data));
        idle("TEXT by " + names + " of " + data, want, x -> x.data(0, 3, true));
        idle("its DATA", data, x -> x.data(0, 3, false));
    }

    private void filterOfStreams() {
        start("\"Filter\": a NAME, or a ROW of NAMES (at most 3): the first one is the one that is undone first");
        textOf("", "4a>", "4a>");
        textOf("/Filter null ", "4a>", "4a>");
        textOf("/Filter/Hex ", "4a>", "J");
        textOf("/Filter/Run ", "~3a", "aaa");
        textOf("/Filter/Back ", "a^13", "aaaa");
        textOf("/Filter[]", "4a>", "4a>");
        textOf("/Filter[/Hex]", "4a>", "J");
        textOf("/Filter[/Hex/Run]", "7e3361>", "aaa");
        textOf("/Filter[/Run/Hex]", "~46>", "ff");
        textOf("/Filter[/Hex/Run/Back]", "615e7e3331>", "aa1");
        textOf("/Filter[/Hex/Run/Back]", "615e3133>", "aaaa");
        textOf("/Filter[/Run/Run/Run]", "~1~~1~1~1~3a", "-");
        goOn("any other \"Filter\" than told");
        textOf("/Filter[/Run/Run/Run/Run]", "a", "-");
        textOf("/Filter[/Run/Run/Run]", "a", "a");
        textOf("/Filter[/Run 1]", "a", "-");
        textOf("/Filter[null]", "a", "-");
        textOf("/Filter[[/Run]]", "a", "-");
        textOf("/Filter/Runs ", "a", "-");
        textOf("/Filter/run ", "a", "-");
        textOf("/Filter/Ru ", "a", "-");
        textOf("/Filter 1", "a", "-");
        textOf("/Filter(Run)", "a", "-");
        textOf("/Filter 3 R", "a", "-");
        textOf("/Filter<</Run 1>>", "a", "-");
        textOf("/Filter true", "a", "-");
        goOn("what can not be undone has no TEXT");
        textOf("/Filter/Hex ", "", "-");
        textOf("/Filter/Run ", "", "");
        textOf("/Filter/Back ", "", "");
        textOf("/Filter[/Hex/Run]", "7e33>", "-");
    }

    private void lengths() {
        start("TEXTS have at most 500 SIGNS");
        String five = times(55, "~9a");
        textOf("/Filter/Run ", five + "aaaaa", times(500, "a"));
        textOf("/Filter/Run ", five + "aaaaaa", "-");
        textOf("/Filter/Back ", "a" + times(55, "^19") + "^14", times(500, "a"));
        textOf("/Filter/Back ", "a" + times(55, "^19") + "^15", "-");
        textOf("", times(500, "a"), times(500, "a"));
        textOf("/Filter/Hex ", times(249, "61") + "6>", times(249, "a") + "`");
        goOn("on its way, too");
        String digits = times(55, "~96");
        textOf("/Filter[/Run/Hex]", digits + "6666>", times(249, "f") + "`");
        textOf("/Filter[/Run/Hex]", digits + "66666>", "-");
    }

    private void dataAsked() {
        start("that of a STREAM; \"-\" if it is none, or its TEXT is BROKEN");
        repaired(body(1, "<</Kind/Root>>") + body(60, "/Filter/Run", "~2-") + body(2, "/Filter/Run", "~"));
        idle("TEXT", "--", x -> x.data(0, 60, true));
        idle("DATA", "~2-", x -> x.data(0, 60, false));
        idle("TEXT that is BROKEN", "-", x -> x.data(0, 2, true));
        idle("DATA of a BROKEN one", "~", x -> x.data(0, 2, false));
        idle("of a VALUE", "-", x -> x.data(0, 1, false));
        idle("TEXT of a VALUE", "-", x -> x.data(0, 1, true));
        idle("of none", "-", x -> x.data(0, 3, false));
        idle("TEXT of none", "-", x -> x.data(0, 3, true));
        index("OBJECT 0", x -> x.data(0, 0, false));
        index("OBJECT 61", x -> x.data(0, 61, true));
        index("DOCUMENT -1", x -> x.data(-1, 1, false));
        index("DOCUMENT 2", x -> x.data(2, 1, true));
    }

    private void filterCalls() {
        start("DATA of a STREAM is made anew of its TEXT by up to three Filters, and \"Filter\" told so");
        stream(0, 60, "aaaa~");
        due("none", 5, x -> x.filter(0, 60, -1, -1, -1));
        due("told", "<<>> data", x -> x.object(0, 60));
        due("one", 6, x -> x.filter(0, 60, 1, -1, -1));
        due("a ROW of one", "<</Filter [/Run]>> data", x -> x.object(0, 60));
        due("DATA", "~4a~1~", x -> x.data(0, 60, false));
        due("two", 13, x -> x.filter(0, 60, 0, 1, -1));
        due("the first is made last", "7e34617e317e>", x -> x.data(0, 60, false));
        due("three", 8, x -> x.filter(0, 60, 2, 1, 0));
        due("the first is made last", "61^267e>", x -> x.data(0, 60, false));
        due("three told", "<</Filter [/Back /Run /Hex]>> data", x -> x.object(0, 60));
        due("TEXT stays", "aaaa~", x -> x.data(0, 60, true));
        due("it goes", 5, x -> x.filter(0, 60, -1, -1, -1));
        due("without any it goes", "<<>> data", x -> x.object(0, 60));
        goOn("IllegalArgumentException if one is not NONE to 2, or one is told behind NONE");
        argument("first -2", x -> x.filter(0, 60, -2, -1, -1));
        argument("first 3", x -> x.filter(0, 60, 3, -1, -1));
        argument("second -2", x -> x.filter(0, 60, 0, -2, -1));
        argument("second 3", x -> x.filter(0, 60, 0, 3, -1));
        argument("third -2", x -> x.filter(0, 60, 0, 0, -2));
        argument("third 3", x -> x.filter(0, 60, 0, 0, 3));
        argument("second behind NONE", x -> x.filter(0, 60, -1, 0, -1));
        argument("third behind NONE", x -> x.filter(0, 60, 0, -1, 0));
        argument("third behind two NONE", x -> x.filter(0, 60, -1, -1, 0));
        argument("both behind NONE", x -> x.filter(0, 60, -1, 0, 0));
        argument("ahead of a refusal", x -> x.filter(0, 1, 3, -1, -1));
        goOn("IndexOutOfBoundsException if there is no such DOCUMENT, or object is not 1 to 60");
        index("DOCUMENT -1", x -> x.filter(-1, 60, 3, -1, -1));
        index("DOCUMENT 2", x -> x.filter(2, 60, 0, -1, -1));
        index("OBJECT 0", x -> x.filter(0, 0, 3, -1, -1));
        index("OBJECT 61", x -> x.filter(0, 61, 0, -1, -1));
    }

    private void filterRefused() {
        start("-9 if it is no STREAM, or BROKEN");
        String nine = "/A 1/B 1/C 1/D 1/E 1/F 1/G 1/H 1/I 1";
        repaired(body(1, "<</Kind/Root>>") + body(2, "/Filter/Run", "~") + body(3, nine, "a")
                + body(4, nine.replace("/I 1", "/Filter/Run"), "a") + body(5, nine.replace("/I 1", ""), "a"));
        refused("none", x -> x.filter(0, 6, 0, -1, -1));
        refused("a VALUE", x -> x.filter(0, 1, 0, -1, -1));
        refused("a VALUE without Filters", x -> x.filter(0, 1, -1, -1, -1));
        refused("BROKEN", x -> x.filter(0, 2, 0, -1, -1));
        refused("BROKEN without Filters", x -> x.filter(0, 2, -1, -1, -1));
        goOn("or its BOOK would have 10 NAMES");
        refused("9 NAMES without Filter", x -> x.filter(0, 3, 1, -1, -1));
        due("9 NAMES, none told", 1, x -> x.filter(0, 3, -1, -1, -1));
        due("9 NAMES with Filter", 3, x -> x.filter(0, 4, 0, -1, -1));
        due("8 NAMES without Filter", 3, x -> x.filter(0, 5, 0, -1, -1));
        goOn("or the LOCK does not let it");
        does(x -> x.lock(0, 1, 5));
        does(x -> x.write(0, 0, false));
        does(x -> x.read(0, 0));
        refused("LOCK", x -> x.filter(0, 5, 0, -1, -1));
        argument("exceptions go ahead", x -> x.filter(0, 5, 4, -1, -1));
    }

    private void filterLengths() {
        start("-9 if DATA (on its way, too) would be longer than 500");
        repaired(body(1, "<</Kind/Root>>") + body(2, "", times(249, "a")) + body(3, "", times(250, "a"))
                + body(4, "", times(83, "~a") + "aa") + body(5, "", times(62, "~a") + "bacd")
                + body(6, "", times(62, "~a") + "bacde"));
        due("499", 499, x -> x.filter(0, 2, 0, -1, -1));
        refused("501", x -> x.filter(0, 3, 0, -1, -1));
        refused("501 on its way", x -> x.filter(0, 3, 1, 0, -1));
        refused("501 on its way, ahead of two", x -> x.filter(0, 3, 1, 2, 0));
        due("two Runs ahead of Hex", 281, x -> x.filter(0, 3, 0, 1, 1));
        due("500 by two Runs", 500, x -> x.filter(0, 5, 1, 1, -1));
        refused("501 by two Runs", x -> x.filter(0, 6, 1, 1, -1));
        refused("three Hex", x -> x.filter(0, 4, 0, 0, 0));
    }
}
