/** Promises 1 to 4: the new object, the text, and what it may tell. */
final class TextEdges {
    private static final int BAD = Edge.BAD, STATE = Edge.STATE, FULL = Edge.FULL, NONE = Edge.NONE, NO = Edge.NO;
    /** Three lines, six strips, eight words of six letters, and nine blanks: 150 bytes. */
    private static final String FULL_PAGE = "n3;" + "s ab cd ef;".repeat(6) + "w abcdef;".repeat(8) + " ".repeat(9);

    private TextEdges() {
    }

    static void run() {
        newObject();
        type();
        clear();
        page();
        numbersOfThings();
        signsAndTokens();
        firstFaults();
        otherBytes();
        numbers();
        endsTooEarly();
        readAnew();
    }

    private static void newObject() {
        Edge.of(1, "As told; no STRIPS, no WORDS.").dues("count(#)", 2, 0, 0, 0, 0, 0)
                .refuses(BAD, "strip(0, 0)", "sign(0, 0, 0)", "place(0)", "word(0, 0)", "turn(0)", "takes(0)", "lays(0)")
                .refuses(NO, "mark(0, 0)", "mark(1, 0)", "mark(2, 0)", "mark(3, 0)", "mark(4, 0)", "mark(5, 0)");
        Edge.of(1, "2 at first").due("count(0)", 2).due("now(1)", 3).dues("line(0, #)", 0, 0, 0).dues("line(1, #)", 0, 0, 0)
                .refuses(BAD, "line(2, 0)", "line(-1, 0)", "reads(0, 0)", "reads(1, 0)");
        Edge.of(1, "none lies there: 0.").dues("now(#)", 0, 3, 0, 0, 0, 0).dues("orders(#)", 1, 0).dues("either(#)", 1, 0, 0)
                .dues("best(#)", 0, 0).dues("odds(#)", 1, 1);
        Edge.of(1, "UNDONE: the latest SWAPPED, MOVED, TURNED, TAKEN, LAID").refuses(STATE, "undo()");
        Edge.of(1, "STATE: none was kept.").refuses(STATE, "back(0)", "back(1)");
        Edge.of(1, "THE TEXT is empty").due("clear()", 0).due("page()", 0).dues("count(#)", 2, 0, 0, 0, 0, 0);
        Edge.of(1, "Nothing was SEEN").due("forget()", 0).due("which()", 0).due("look()", NONE);
        Edge.of(1, "THE TRACE.").due("trace()", 0);
        Edge.of(1, "BAD = -1, STATE = -2, FULL = -3, NONE = -9;").same("BAD", StripPage.BAD, -1).same("STATE", StripPage.STATE, -2)
                .same("FULL", StripPage.FULL, -3).same("NONE", StripPage.NONE, -9);
        Edge.of(1, "NO = -1000000;").same("NO", StripPage.NO, -1000000);
    }

    private static void type() {
        Edge.of(2, "A byte (0 .. 255) comes to THE TEXT: how many it has.").due("type(0)", 1).due("type(255)", 2)
                .due("type(1)", 3).due("type(254)", 4).due("count(5)", 4);
        Edge.of(2, "A byte (0 .. 255)").refuses(BAD, Edge.beyond("type(#)", 256)).types("n1;s ab;")
                .refuses(BAD, Edge.beyond("type(#)", 256)).refuses(BAD, "type(" + (256 + 'w') + ")", "type(" + ('w' - 256) + ")")
                .due("page()", 2);
        Edge full = Edge.of(2, "a text (150 bytes at most)");
        for (int k = 1; k <= 150; k++) {
            full.due("type(32)", k);
        }
        full.due("count(5)", 150).refuses(FULL, "type(32)", "type(0)", "type(255)").due("type(32)", FULL).due("type(119)", FULL)
                .due("count(5)", 150).due("page()", 0).due("type(32)", 1);
        Edge.of(2, "BAD; FULL.").types(FULL_PAGE).refuses(BAD, Edge.beyond("type(#)", 256)).refuses(FULL, "type(0)", "type(255)");
        Edge.of(2, "Refused, and nothing changes").types(FULL_PAGE).due("type(35)", FULL).due("type(-1)", BAD).due("page()", 15);
        Edge.of(2, "150 bytes at most").types(" ".repeat(149)).due("type(35)", 150).due("type(35)", FULL).due("page()", -10 - 149);
    }

    private static void clear() {
        Edge empty = Edge.of(3, "THE TEXT is empty: how many bytes it had.").due("clear()", 0).due("type(0)", 1)
                .due("clear()", 1).due("clear()", 0).due("count(5)", 0);
        empty.anew().types(FULL_PAGE).due("clear()", 150).due("clear()", 0).due("type(32)", 1);
        empty.anew().types("n1;").due("clear()", 3).types("w a;").due("page()", 1).due("count(0)", 2).due("count(2)", 1);
        empty.anew().reads("n1;s ab;w ab;").types("n3;#").due("clear()", 4).dues("count(#)", 1, 1, 1, 0, 0, 0).due("now(1)", 1);
        empty.anew().types("n3;#").due("page()", -13).due("clear()", 4).due("page()", 0);
    }

    private static void page() {
        Edge items = Edge.of(4, "THE TEXT tells all, and is empty then: how many ITEMS.").types(FULL_PAGE).due("page()", 15)
                .dues("count(#)", 3, 6, 8, 0, 0, 0).due("now(0)", 6);
        // An empty text tells all, too: that there is nothing.
        items.due("page()", 0).dues("count(#)", 2, 0, 0, 0, 0, 0).due("now(0)", 0).refuses(BAD, "strip(0, 0)", "word(0, 0)", "line(2, 0)");
        items.anew().due("page()", 0).types("   ").due("page()", 0).due("count(5)", 0).types(" ".repeat(150)).due("page()", 0)
                .due("count(5)", 0).types("n2;").due("page()", 1).types("w a;").due("page()", 1);
        Edge.of(4, "-10 less FAULT: nothing changes.").fault("#", 0).fault(";", 0).fault("x", 0).fault("n1;s ab;w a;#", 12)
                .fault(" ".repeat(149) + "#", 149).fault("s" + " ".repeat(149), 150);
        Edge.of(4, "-10 less FAULT: nothing changes.").types("n3;s ab cd").due("page()", -20).due("page()", -20)
                .due("count(5)", 10).types(" ef;").due("page()", 2).due("sign(0, 2, 1)", 'f');
        Edge.of(4, "Refused, and nothing changes").reads(FULL_PAGE).types("n1;s zz;w z;w #").due("page()", -10 - 14)
                .dues("count(#)", 3, 6, 8, 0, 0, 15).due("sign(0, 2, 1)", 'f').due("sign(0, 0, 0)", 'a').due("word(0, 0)", 'a');
    }

    private static void numbersOfThings() {
        Edge lines = Edge.of(4, "n N (LINES; the first of all, if it is told)").fault("n0;", 1).fault("n4;", 1).fault("n 4 ;", 2);
        for (int n = 1; n <= 3; n++) {
            lines.anew().types("n" + n + ";").due("page()", 1).due("count(0)", n);
        }
        lines.anew().reads("n3;").due("count(0)", 3).reads("w a;").due("count(0)", 2);
        Edge strips = Edge.of(4, "STRIPS 0 .. (6 at most)");
        strips.anew().types("n1;" + "s aa;".repeat(6)).due("page()", 7).due("count(1)", 6).due("sign(5, 0, 1)", 'a');
        strips.anew().types("n1;").due("page()", 1).due("count(1)", 0);
        strips.fault("n1;" + "s aa;".repeat(7), 33).fault("n1;" + "s aa;".repeat(6) + " s", 34).fault("n1;" + "s aa;".repeat(6) + "s #", 33);
        Edge words = Edge.of(4, "WORDS 0 .. (8 at most)");
        words.anew().types("w a;".repeat(8)).due("page()", 8).due("count(2)", 8).due("word(7, 0)", 'a');
        words.anew().types("n1;s aa;").due("page()", 2).due("count(2)", 0).due("now(1)", 0);
        words.fault("w a;".repeat(9), 32).fault("w a;".repeat(8) + " w", 33).fault("w a;".repeat(8) + "w #", 32);
        eightLongWords();
        Edge letters = Edge.of(4, "w and a row of 1 to 6 letters").fault("w;", 1).fault("w ;", 2).fault("w abcdefg;", 2)
                .fault("w " + "a".repeat(148), 2);
        letters.anew().types("w z;").due("page()", 1).dues("word(0, #)", 'z', NONE, NONE, NONE, NONE, NONE);
        letters.anew().types("w abcxyz;").due("page()", 1).dues("word(0, #)", 'a', 'b', 'c', 'x', 'y', 'z');
        Edge pairs = Edge.of(4, "s and as many PAIRS as LINES (the next STRIP)").fault("n1;s;", 4).fault("n1;s ab cd;", 8)
                .fault("n2;s ab;", 7).fault("n2;s ab cd ef;", 11).fault("s ab;", 4).fault("s ab cd ef;", 8).fault("n3;s ab cd;", 10)
                .fault("n3;s ab cd ef gh;", 14);
        pairs.anew().types("n1;s ab;").due("page()", 2).anew().types("n3;s ab cd ef;").due("page()", 2).anew().types("s ab cd;")
                .due("page()", 1);
        Edge twice = Edge.of(4, "one told twice is as told once, and counts");
        twice.anew().types("n1;s a.;" + "w a;".repeat(8)).due("page()", 10).due("count(2)", 8).due("now(2)", 1).due("line(0, 1)", 1)
                .due("best(0)", 1).due("orders(0)", 1).due("word(7, 0)", 'a');
        twice.fault("n1;s a.;" + "w a;".repeat(9), 40);
    }

    /** Eight words of six letters that have no beginning in common: no page can tell more. */
    private static void eightLongWords() {
        Edge eight = Edge.of(4, "WORDS 0 .. (8 at most): 1 to 6 letters.");
        String words = "";
        for (char c = 'a'; c < 'i'; c++) {
            words += "w " + c + "vwxyz;";
        }
        for (char c = 'a'; c < 'i'; c++) {
            eight.anew().reads("n1;s " + c + "v;s wx;s yz;" + words).due("now(1)", 1).due("line(0, 1)", 1).due("orders(0)", 1)
                    .due("best(0)", 6).dues("word(" + (c - 'a') + ", #)", c, 'v', 'w', 'x', 'y', 'z');
            eight.anew().reads("n1;s " + c + "v;s wx;s y.;" + words).due("now(1)", 0).due("orders(0)", 0).due("best(0)", 0);
        }
        eight.anew().reads("n1;s iv;s wx;s yz;" + words).due("now(1)", 0).due("orders(0)", 0).due("best(0)", 0);
    }

    private static void signsAndTokens() {
        Edge signs = Edge.of(4, "letters a .. z or a BLANK (a point, 46)").reads("n3;s az z. ..;").dues("sign(0, 0, #)", 'a', 'z')
                .dues("sign(0, 1, #)", 'z', '.').dues("sign(0, 2, #)", '.', '.');
        for (char c : "`{-/AZ@[".toCharArray()) {
            signs.fault("n1;s " + c + "a;", 5).fault("w " + c + ";", 2);
        }
        Edge blanks = Edge.of(4, "read byte by byte, blanks (32) between TOKENS");
        blanks.anew().types("  n  1  ;  s  ab  ;  w  a  ;  ").due("page()", 3).dues("count(#)", 1, 1, 1);
        blanks.anew().types("n1;s ab;w a;").due("page()", 3).anew().types("n 1;s ab;").due("page()", 2);
        for (int c : new int[] {0, 9, 10, 13, 31, 33, 160}) {
            blanks.fault("n" + (char) c + "1;", 1).fault("w a;" + (char) c, 4);
        }
        Edge.of(4, "TOKENS are rows of letters a .. z and points side by side").fault("s abcd;", 2).fault("s ab.cd;", 2)
                .fault("n1;sab;", 3).fault("wa;", 0).fault("n1;s a b;", 5).fault("w a b;", 4).fault("w a1;", 3).fault("n1a;", 2)
                .fault("n1;s a1;", 5).fault("n1 2;", 3);
    }

    private static void firstFaults() {
        Edge begins = Edge.of(4, "a row that begins no ITEM (n, s, w alone do)").fault("n1;.;", 3).fault("ss", 0).fault("nn1;", 0)
                .fault("ww a;", 0).fault("n.;", 0).fault(".w a;", 0).fault("5;", 0).fault("w a;5;", 4).fault("w a;;", 4).fault(";w a;", 0);
        for (char c = 'a'; c <= 'z'; c++) {
            if ("nsw".indexOf(c) < 0) {
                begins.fault(c + " a;", 0).fault("w a;" + c, 4);
            }
        }
        Edge.of(4, "n behind another ITEM").fault("n1;n1;", 3).fault("w a;n1;", 4).fault("s ab cd;n2;", 8).fault("n2; n", 4);
        Edge.of(4, "a seventh STRIP").fault("n1;" + "s aa;".repeat(7), 33).fault("n1;w a;" + "s aa;".repeat(6) + "w a;  s aa", 43);
        Edge.of(4, "a ninth WORD").fault("w a;".repeat(9), 32).fault("w a;".repeat(8) + "s ab cd;w a;", 40);
        Edge.of(4, "a PAIR that is no two SIGNS").fault("n1;s a;", 5).fault("n1;s abc;", 5).fault("n1;s .;", 5).fault("n1;s ...;", 5)
                .fault("n1;s 12;", 5).fault("n1;s ;", 5).fault("n2;s ab c;", 8).fault("n3;s ab cd efg;", 11);
        Edge.of(4, "a WORD with a point or too long").fault("w .;", 2).fault("w a.;", 2).fault("w .a;", 2).fault("w abcde.;", 2)
                .fault("w abcdefg;", 2).fault("w abcdef.;", 2).fault("w 1;", 2);
        Edge.of(4, "a NUMBER beyond what it may be, too").fault("n0;", 1).fault("n4;", 1).fault("n9;", 1).fault("n10;", 1)
                .fault("n11;", 1).fault("n19;", 1).fault("n31;", 1).fault("n39;", 1).fault("n99;", 1).fault("n1 9", 3);
        Edge.of(4, "ITEMS, each a letter and what is told, ended by ;").fault("n a;", 2).fault("n;", 1).fault("n1 n", 3)
                .fault("n1;s ab w a;", 8).fault("w a w b;", 4).fault("w a 1;", 4);
        // The first from the left is told, whatever comes behind it.
        Edge.of(4, "the first TOKEN that can't stand there").fault("n4;n#100", 1).fault("s ab;n100#", 4).fault("x n100", 0)
                .fault("w a;n007", 4).fault("w .#", 2).fault("n1;s abc#", 5);
    }

    private static void otherBytes() {
        Edge other = Edge.of(4, "of any other byte, a NUMBER above 99 or with a 0 ahead of others, that TOKEN's");
        for (int c = 0; c < 256; c++) {
            if (c >= 'a' && c <= 'z' || c >= '0' && c <= '9' || c == '.' || c == ';' || c == ' ') {
                continue;
            }
            other.fault("" + (char) c, 0).fault("w a" + (char) c + ";", 3).fault("n1;s b" + (char) c + ";", 5)
                    .fault("n" + (char) c + "1;", 1).fault("n1;  " + (char) c, 5);
        }
    }

    private static void numbers() {
        Edge.of(4, "a NUMBER above 99").fault("n99;", 1).fault("n100;", 1).fault("n101;", 1).fault("n999;", 1).fault("n 200;", 2)
                .fault("w 100;", 2).fault("100;", 0);
        // 2 to the 8th, 16th, 32nd and 64th, and 1 more: what a number becomes that is held in too small a room.
        Edge.of(4, "a NUMBER above 99").fault("n257;", 1).fault("n65537;", 1).fault("n4294967297;", 1)
                .fault("n18446744073709551617;", 1).fault("n" + "1".repeat(149), 1);
        Edge.of(4, "with a 0 ahead of others").fault("n00;", 1).fault("n01;", 1).fault("n02;", 1).fault("n03;", 1).fault("n001;", 1)
                .fault("n 02;", 2).fault("n" + "0".repeat(147) + "2;", 1);
    }

    private static void endsTooEarly() {
        Edge early = Edge.of(4, "the text's length, if it ends too early.");
        String[] begun = {"n", "n1", "s", "s ab", "s ab cd", "n1;s ab", "n3;s ab cd ef", "w", "w a", "w abcdef", "n1;s ab;w"};
        for (String text : begun) {
            early.fault(text, text.length()).fault(text + " ", text.length() + 1).fault(text + "   ", text.length() + 3);
        }
        early.fault("w a" + " ".repeat(147), 150);
        early.anew().types("w a").due("page()", -13).types(";").due("page()", 1);
    }

    private static void readAnew() {
        Edge anew = Edge.of(4, "(Read anew: as told, nothing SEEN or to be UNDONE, IMAGES are gone.)").reads("n1;s ab;s cd;s ef;w ab;")
                .does("swaps(0, 2)", "turn(1)", "takes(2)", "sees(0, 1)", "sees(1, 0)", "keep(0)", "keep(1)")
                .due("either(0)", 0).types("n1;s ab;s cd;s ef;w ab;w cd;w abcdef;").due("page()", 7);
        anew.twin().due("now(0)", 3).due("now(3)", 123).due("now(1)", 1).due("orders(0)", 1);
        anew.twin().due("strip(0, 1)", 0).due("strip(1, 1)", 0).due("strip(2, 1)", 0).due("either(0)", 1);
        anew.twin().due("count(3)", 0).due("which()", 7).due("look()", 0).due("sees(2, 1)", 1).due("which()", 2);
        anew.twin().due("count(4)", 0).refuses(STATE, "undo()").refuses(STATE, "back(0)", "back(1)");
        Edge.of(4, "At first all STRIPS lie on THE DESK, from the left to the right by their numbers, none is TURNED.")
                .reads("n1;" + "s ab;".repeat(6)).due("now(3)", 123456).dues("place(#)", 0, 1, 2, 3, 4, 5)
                .due("strip(0, 1)", 0).due("strip(5, 1)", 0);
        Edge less = Edge.of(4, "THE TEXT tells all").reads(FULL_PAGE).reads("n1;s ab;w a;").dues("count(#)", 1, 1, 1).due("now(3)", 1);
        less.refuses(BAD, "strip(1, 0)", "word(1, 0)", "line(1, 0)", "place(1)", "sign(0, 1, 0)").due("now(1)", 0);
        less.anew().reads("n1;s ab;w ab;").due("now(1)", 1).reads("n1;s ab;w a;").due("now(1)", 0).reads("n1;s ab;").due("now(1)", 0)
                .reads("n1;s ..;").due("now(1)", 1);
    }
}
