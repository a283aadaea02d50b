/** The boundaries of section 1 of the document (signs, values) and of promises 2 to 5. */
public final class ValueBounds extends Trial {
    public static void main(String[] args) {
        ValueBounds bounds = new ValueBounds();
        bounds.signs();
        bounds.words();
        bounds.integers();
        bounds.names();
        bounds.strings();
        bounds.rows();
        bounds.books();
        bounds.refs();
        bounds.depths();
        bounds.writtenForms();
        bounds.readPasses();
        bounds.tooEarly();
        bounds.shorter();
        bounds.firstWrong();
        bounds.tooMany();
        bounds.rest();
        bounds.said();
        bounds.saidWords();
        bounds.saidLengths();
        bounds.end();
    }

    private void signs() {
        start("A text is a row of SIGNS: the codes 32 to 126 and 10");
        for (int code : new int[] {10, 32, 33, 125, 126}) {
            due("code " + code, 1, x -> x.say(300, code, -1, -1, -1, -1));
            due("LINE", String.valueOf((char) code), Pagedocument::line);
        }
        for (int code : new int[] {0, 9, 11, 13, 31, 127, 128, 199, -2, Integer.MIN_VALUE, Integer.MAX_VALUE}) {
            argument("code " + code, x -> x.say(code, -1, -1, -1, -1, -1));
        }
    }

    private void words() {
        start("WORD of a number n (0 to 999)");
        String[] words = {"a", "b", "d", "ba", "dd", "baa", "ddd", "baaa", "dddd", "baaaa", "ddcbc", "ddcbd"};
        int[] numbers = {0, 1, 3, 4, 15, 16, 63, 64, 255, 256, 998, 999};
        does(x -> x.field(0, 0, 9));
        for (int k = 0; k < words.length; k++) {
            int number = numbers[k];
            due("length of " + number, words[k].length(), x -> x.fill(0, 0, number));
            due("WORD of " + number, words[k], x -> x.valueOf(0, 0));
        }
        argument("1000", x -> x.fill(0, 0, 1000));
        argument("-1", x -> x.fill(0, 0, -1));
    }

    private void integers() {
        start("an INTEGER (-9999 to 9999); digits up to 4; 0 may stand ahead");
        written("9999", "9999");
        written("-9999", "-9999");
        written("0009", "9");
        written("-0009", "-9");
        written("0000", "0");
        written("-0", "0");
        fault("10000", 0);
        fault("-10000", 0);
        fault("00000", 0);
        fault("-00000", 0);
        fault(" [9999 -9999 10000]", 13);
        fault("[-10000]", 1);
        fault("1000a", 4);
        fault("-9999a", 5);
        fault("--1", 1);
        fault("+1", 0);
        fault("1.5", 1);
    }

    private void names() {
        start("a NAME (1 to 6 letters \"A\" to \"Z\", \"a\" to \"z\")");
        for (String name : new String[] {"/A", "/Z", "/a", "/z", "/ABCXYZ", "/abcxyz", "/AZazMm"}) {
            written(name, name);
        }
        fault("/", 1);
        for (String sign : new String[] {"@", "[", "`", "{", "0", "9", " ", "/", "_", "-"}) {
            fault("/" + sign + "A", 1);
        }
        for (String sign : new String[] {"@", "[", "`", "{", "0", "9", "/", "_", "-"}) {
            fault("/A" + sign, 2);
            fault("/abcdef" + sign, 7);
        }
        fault("/ABCDEFG", 0);
        fault("\n/abcdefg ", 1);
        fault("[/abcdef /abcdefg]", 9);
        written("[/abcdef/g]", "[/abcdef /g]");
    }

    private void strings() {
        start("a STRING (a text of at most 40 SIGNS without NEWLINE)");
        written("()", "()");
        written("( ~)", "( ~)");
        written("(" + times(40, "a") + ")", "(" + times(40, "a") + ")");
        fault("(" + times(41, "a") + ")", 0);
        written("(" + times(40, "\\(") + ")", "(" + times(40, "\\(") + ")");
        fault("(" + times(41, "\\(") + ")", 0);
        fault(" (" + times(39, "a") + "\n", 41);
        fault("(\n)", 1);
        fault("(a\nb)", 2);
        written("(<<[1 2]>> /A 3 R % null)", "(<<[1 2]>> /A 3 R % null)");
        goOn("with a backslash ahead of each \"(\", \")\" and backslash");
        written("(\\(\\)\\\\)", "(\\(\\)\\\\)");
        fault("(()", 1);
        fault("(a))", 3);
        fault("(\\n)", 2);
        fault("(\\ )", 2);
        fault("(\\\n)", 2);
        fault("(\\", 2);
    }

    private void rows() {
        start("a ROW of VALUES (at most 12)");
        written("[]", "[]");
        written("[" + times(12, "1 ") + "]", "[" + times(11, "1 ") + "1]");
        fault("[" + times(12, "1 ") + "1]", 0);
        written("[" + times(12, "[]") + "]", "[" + times(11, "[] ") + "[]]");
        fault("[[" + times(13, "()") + "]]", 1);
        fault("[1 [" + times(12, "/A") + "] [" + times(13, "/A") + "]]", 30);
        written("[null null]", "[null null]");
        fault("[" + times(12, "null") + "null]", 0);
    }

    private void books() {
        start("a BOOK: NAMES, each with a VALUE that is not NOTHING (at most 10)");
        String nine = "/A 1 /B 1 /C 1 /D 1 /E 1 /F 1 /G 1 /H 1 /I 1";
        written("<<>>", "<<>>");
        written("<<" + nine + ">>", "<<" + nine + ">>");
        written("<<" + nine + " /J 1>>", "<<" + nine + " /J 1>>");
        fault("<<" + nine + " /J 1 /K 1>>", 0);
        fault("[<<" + nine + "/J 1/K 1>>]", 1);
        goOn("of two alike ones the later one counts, one with null goes");
        written("<<" + nine + "/J 1/A 2/B 2>>", "<<" + nine.replace("A 1 /B 1", "A 2 /B 2") + " /J 1>>");
        written("<<" + nine + "/J 1/K null>>", "<<" + nine + " /J 1>>");
        written("<<" + nine + "/J 1/K 1/K null>>", "<<" + nine + " /J 1>>");
        written("<<" + nine + "/J 1/J null/K 1>>", "<<" + nine + " /K 1>>");
        written("<</A 1/A null>>", "<<>>");
        written("<</A null/A 1>>", "<</A 1>>");
        written("<</A[null]>>", "<</A [null]>>");
        fault("<<" + nine + "/J null/J 1/K 1>>", 0);
    }

    private void refs() {
        start("a REF to an OBJECT (1 to 60): a number without a sign, with one BLANK or more and \"R\" behind it");
        written("1 R", "1 R");
        written("60 R", "60 R");
        written("0001    R", "1 R");
        written("0060 R", "60 R");
        fault("0 R", 2);
        fault("0000 R", 5);
        fault("61 R", 3);
        fault("9999 R", 5);
        fault("00001 R", 0);
        fault("-1 R", 3);
        fault("1R", 1);
        fault("1\nR", 2);
        fault("1 \nR", 3);
        fault("1 r", 2);
        fault("1 R R", 4);
        fault("[61 R]", 4);
        fault("<</A 0 R>>", 7);
        written("[1 2 R 3]", "[1 2 R 3]");
        written("[1 2 R3 R]", "[1 2 R 3 R]");
    }

    private void depths() {
        start("A VALUE is at most 5 deep; a sixth one is what is too deep; other VALUES do not count");
        written("[[[[[]]]]]", "[[[[[]]]]]");
        fault("[[[[[[]]]]]]", 5);
        written("[[[[[1 -2 (a) /A 3 R null true false]]]]]", "[[[[[1 -2 (a) /A 3 R null true false]]]]]");
        String five = "<</A <</A <</A <</A <</A 1>>>>>>>>>>";
        written(five, five);
        fault(five.replace("1", "<<>>"), 25);
        fault(five.replace("1", "[]"), 25);
        written("[<</A [<</A [1]>>]>>]", "[<</A [<</A [1]>>]>>]");
        fault("[<</A [<</A [<<>>]>>]>>]", 13);
        fault("[[[[[1 [", 7);
        fault("[[[[[<", 5);
        fault("[[[[[<x", 5);
        written("[[[[[]]]] [[[[]]]]]", "[[[[[]]]] [[[[]]]]]");
        goOn("a VALUE too many counts whatever FAULT it has itself, also if it is too deep");
        fault("[[[[[" + times(12, "1 ") + "[", 4);
    }

    private void writtenForms() {
        start("WRITTEN is a VALUE so");
        written("null", "null");
        written(" true", "true");
        written("false\n", "false");
        written("[1(a)/B[<<>>]-2]", "[1 (a) /B [<<>>] -2]");
        goOn("for each NAME, as texts rise");
        written("<</b 1/a 2/B 3/A 4/AB 5/Aa 6/ABC 7/zzzzzz 8/Zzzzzz 9>>",
                "<</A 4 /AB 5 /ABC 7 /Aa 6 /B 3 /Zzzzzz 9 /a 2 /b 1 /zzzzzz 8>>");
        written("<</A/B/C(x)/D[1]/E<</b 1/a 1>>>>", "<</A /B /C (x) /D [1] /E <</a 1 /b 1>>>>");
    }

    private void readPasses() {
        start("BLANKS and NEWLINES are passed over ahead of each part");
        written(" \n [ \n 1 \n /A \n ] \n ", "[1 /A]");
        written("\n<<\n/A\n1\n/B\n\n2\n>>\n", "<</A 1 /B 2>>");
        written("<</A<<>>/B[]>>", "<</A <<>> /B []>>");
        fault("< </A 1>>", 1);
        fault("<</ A 1>>", 3);
        fault("- 1", 1);
        fault("nu ll", 2);
        fault("(a) )", 4);
        goOn("nothing but BLANKS and NEWLINES behind it");
        fault("1 \n \n", -1);
        fault("1 2", 2);
        fault("null\nx", 5);
        fault("[] ]", 3);
        fault("<<>>>", 4);
    }

    private void tooEarly() {
        start("the length, if the text ends too early");
        for (String text : new String[] {"", " ", "\n\n", "n", "nul", "t", "tru", "f", "fals", "-", "/", "(", "(a", "(\\",
            "(\\(", "[", "[1", "[1 ", "[[]", "<", "<<", "<< ", "<</", "<</A", "<</A ", "<</A 1", "<</A 1 ", "<</A 1>",
            "<<>", "<</A [", "[-", "[(", "[nul", "<</A -"}) {
            fault(text, text.length());
        }
    }

    private void shorter() {
        start("the length, also if there were more SIGNS behind it");
        for (String text : new String[] {"null", "true", "false", "(a)", "(\\()", "[1]", "[]", "<<>>", "<</A 1>>", "/A", "-1", "[1 2]",
            "<</A[]>>", "[[]]", "[()]"}) {
            back();
            type(text);
            due("FAULT of all", -1, Pagedocument::fault);
            does(x -> x.say(301, -1, -1, -1, -1, -1));
            due("FAULT without the last SIGN of " + text, text.length() - 1, Pagedocument::fault);
        }
        for (String text : new String[] {"3 R", "12", "/AB", "1  "}) {
            back();
            type(text);
            String left = text.equals("3 R") ? "3" : text.substring(0, text.length() - 1).trim();
            does(x -> x.say(301, -1, -1, -1, -1, -1));
            due("WRITTEN without the last SIGN of " + text, left, Pagedocument::written);
        }
        back();
        type("3 R");
        due("an INTEGER and a BLANK", "3", x -> x.say(301, -1, -1, -1, -1, -1) == 2 ? x.written() : "?");
    }

    private void firstWrong() {
        start("A FAULT is told as the place of the first SIGN that can not stand there");
        for (String text : new String[] {"x", "R", ")", "]", ">", "\\", "%D1", "N", "T"}) {
            fault(text, 0);
            fault(" \n" + text, 2);
        }
        fault("nUll", 1);
        fault("trUe", 2);
        fault("fals e", 4);
        fault("nullx", 4);
        fault("[x]", 1);
        fault("[1 >", 3);
        fault("[1,2]", 2);
        fault("<a", 1);
        fault("<[", 1);
        fault("<<1", 2);
        fault("<<(a) 1>>", 2);
        fault("<<[", 2);
        fault("<</A>>", 4);
        fault("<</A )", 5);
        fault("<</A 1 2>>", 7);
        fault("<</A 1]", 6);
        fault("<</A 1>x", 7);
        fault("<</A 1> >", 7);
        fault("<<> >", 3);
    }

    private void tooMany() {
        start("as the first SIGN too many that could stand there otherwise is met");
        fault("(" + times(40, "a") + "(", 41);
        fault("(" + times(40, "a") + "\n", 41);
        fault("(" + times(40, "a"), 41);
        fault("(" + times(40, "a") + "b", 0);
        goOn("behind its backslash if it has one");
        fault("(" + times(40, "a") + "\\", 42);
        fault("(" + times(40, "a") + "\\a", 42);
        fault("(" + times(40, "a") + "\\)", 0);
        fault("(" + times(40, "a") + "\\\\", 0);
        goOn("a VALUE too many as its first SIGN is, one with which a VALUE can begin");
        for (String sign : new String[] {"n", "t", "f", "-", "0", "9", "/", "(", "[", "<"}) {
            fault(" [" + times(12, "1 ") + sign, 1);
            fault(" [" + times(11, "1 ") + "1 \n " + sign + "x", 1);
        }
        for (String sign : new String[] {"x", "R", ")", ">", "N", "\\", "@", ":", ".", "e", "g"}) {
            fault(" [" + times(12, "0 ") + sign, 26);
        }
        goOn("of a BOOK as its whole end, both \">\", is");
        String eleven = "<</A 1/B 1/C 1/D 1/E 1/F 1/G 1/H 1/I 1/J 1/K 1";
        fault(" " + eleven, 1 + eleven.length());
        fault(" " + eleven + ">", 2 + eleven.length());
        fault(" " + eleven + ">x", 2 + eleven.length());
        fault(" " + eleven + " x", 2 + eleven.length());
        fault(" " + eleven + "/L", 3 + eleven.length());
        fault(" " + eleven + ">>x", 1);
        goOn("of a NAME, also of one of a BOOK, the place of its \"/\"");
        fault("<</Abcdefg", 2);
        fault("<</A 1/Abcdefg 1>>", 6);
        fault("<</A /Abcdefg>>", 5);
        goOn("the place where that VALUE begins");
        fault("[1 12345", 3);
        fault("[1 -12345", 3);
        fault("<</A 99999>>", 5);
    }

    private void rest() {
        start("the VALUE of the LINE as it is WRITTEN; \"-\" with a FAULT");
        written("", "-");
        written("1 2", "-");
        written("12345", "-");
        written("-", "-");
        written(" - ", "-");
        goOn("the LINE stays as it is");
        type(" [1 ");
        idle("FAULT", 4, Pagedocument::fault);
        idle("WRITTEN", "-", Pagedocument::written);
        idle("LINE", " [1 ", Pagedocument::line);
    }

    private void said() {
        start("codes of SIGNS; 200 to 222; 300 all go; 301 the last SIGN goes; NONE nothing");
        due("NONE", 0, x -> x.say(-1, -1, -1, -1, -1, -1));
        due("the last SIGN of none", 0, x -> x.say(301, -1, -1, -1, -1, -1));
        due("the last two of none", 0, x -> x.say(301, 301, -1, -1, -1, -1));
        due("the last SIGN of none, and one", 1, x -> x.say(301, 97, -1, -1, -1, -1));
        due("the last SIGN of one", 0, x -> x.say(301, -1, -1, -1, -1, -1));
        due("one behind the other", 6, x -> x.say(97, 98, 99, 100, 101, 102));
        due("LINE", "abcdef", Pagedocument::line);
        due("the last one goes", 5, x -> x.say(301, -1, -1, -1, -1, -1));
        due("two go, two come", 5, x -> x.say(301, 301, -1, 120, -1, 121));
        due("LINE", "abcxy", Pagedocument::line);
        due("all go", 1, x -> x.say(120, 300, 301, 300, 121, -1));
        due("LINE", "y", Pagedocument::line);
        goOn("IllegalArgumentException if one is none of these");
        for (int code : new int[] {-2, 31, 127, 199, 223, 299, 302}) {
            argument("a", x -> x.say(code, 97, 97, 97, 97, 97));
            argument("b", x -> x.say(97, code, 97, 97, 97, 97));
            argument("c", x -> x.say(97, 97, code, 97, 97, 97));
            argument("d", x -> x.say(97, 97, 97, code, 97, 97));
            argument("e", x -> x.say(97, 97, 97, 97, code, 97));
            argument("f", x -> x.say(97, 97, 97, 97, 97, code));
        }
    }

    private void saidWords() {
        start("200 \"/Kind \" to 222 \"/Fields \"");
        for (int k = 0; k < WORDS.length; k++) {
            int code = 200 + k;
            due("length of " + code, WORDS[k].length(), x -> x.say(300, code, -1, -1, -1, -1));
            due("word of " + code, WORDS[k], Pagedocument::line);
        }
    }

    private void saidLengths() {
        start("IllegalStateException if it would be longer than 200 at some moment");
        type(times(199, "a"));
        due("200", 200, x -> x.say(98, -1, -1, -1, -1, -1));
        state("201", x -> x.say(98, -1, -1, -1, -1, -1));
        state("201 at some moment", x -> x.say(98, 301, -1, -1, -1, -1));
        state("201, and all go", x -> x.say(98, 300, -1, -1, -1, -1));
        state("a word", x -> x.say(301, 217, -1, -1, -1, -1));
        due("200 again", 200, x -> x.say(301, 98, 301, 99, -1, -1));
        due("a word of two", 200, x -> x.say(301, 301, 217, -1, -1, -1));
        due("all go ahead of it", 6, x -> x.say(300, 200, -1, -1, -1, -1));
        type(times(194, "a"));
        due("a word of six", 200, x -> x.say(200, -1, -1, -1, -1, -1));
        for (int k = 200; k <= 222; k++) {
            int code = k;
            back();
            type(times(200 - WORDS[k - 200].length(), "a"));
            due("200 by " + code, 200, x -> x.say(code, -1, -1, -1, -1, -1));
            type(times(201 - WORDS[k - 200].length(), "a"));
            state("201 by " + code, x -> x.say(code, -1, -1, -1, -1, -1));
        }
        start("nothing of it is typed");
        type(times(200, "a"));
        due("one goes", 199, x -> x.say(301, -1, -1, -1, -1, -1));
        state("a word of two", x -> x.say(218, -1, -1, -1, -1, -1));
        type(times(197, "a"));
        state("nothing of it is typed", x -> x.say(97, 97, 97, 97, 301, 301));
        goOn("If several exceptions apply, the one that is named first is thrown");
        argument("too long, and a code that is none", x -> x.say(97, 97, 97, 97, 97, 302));
    }
}
