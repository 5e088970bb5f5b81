/** Each promise of the document by itself: ordinary inputs, the edges that it names, wrong inputs. */
public final class PromiseTest {
    private static final int BAD = -1, STATE = -2, FULL = -3, NONE = -9, NO = -1000000;
    private static final String WORDS = "w cat;w dog;w at;w e;w t;";
    private static final int[] WRONG = {-1, Integer.MIN_VALUE, Integer.MAX_VALUE};
    private static int wrong = 0;

    private static void due(String what, long got, long want) {
        if (got != want) {
            wrong++;
            System.out.println(what + " answered " + got + ", due is " + want);
        }
    }

    private static void typeAll(StripPage x, String text) {
        for (int i = 0; i < text.length(); i++) {
            x.type(text.charAt(i));
        }
    }

    private static StripPage read(String text) {
        StripPage x = new StripPage();
        typeAll(x, text);
        if (x.page() < 0) {
            wrong++;
            System.out.println("not read: " + text);
        }
        return x;
    }

    private static void fault(String text, int place) {
        StripPage x = read("n1;s ab;w ab;");
        x.turn(0);
        x.sees(0, 1);
        x.keep(0);
        typeAll(x, text);
        due("page of <" + text + ">", x.page(), -10 - place);
        due("text kept behind <" + text + ">", x.count(5), text.length());
        due("lines behind <" + text + ">", x.count(0), 1);
        due("strips behind <" + text + ">", x.count(1), 1);
        due("words behind <" + text + ">", x.count(2), 1);
        due("seen behind <" + text + ">", x.count(3), 1);
        due("undone behind <" + text + ">", x.count(4), 1);
        due("turned behind <" + text + ">", x.strip(0, 1), 1);
        due("word behind <" + text + ">", x.word(0, 1), 'b');
        due("sign behind <" + text + ">", x.sign(0, 0, 0), 'a');
        due("image behind <" + text + ">", x.back(0), 1);
    }

    private static void newObject() {
        StripPage x = new StripPage();
        int[] counts = {2, 0, 0, 0, 0, 0};
        for (int what = 0; what < counts.length; what++) {
            due("new count " + what, x.count(what), counts[what]);
        }
        due("new trace", x.trace(), 0);
        due("new lines right", x.now(1), 3);
        due("new strip", x.strip(0, 0), BAD);
        due("new place", x.place(0), BAD);
        due("new word", x.word(0, 0), BAD);
        due("new orders", x.orders(0), 1);
        due("new first order", x.orders(1), 0);
        due("new either", x.either(0), 1);
        due("new mark", x.mark(0, 0), NO);
        due("new back", x.back(0), STATE);
        due("new keep", x.keep(0), 0);
        due("new look", x.look(), NONE);
    }

    private static void text() {
        StripPage x = new StripPage();
        due("type 0", x.type(0), 1);
        due("type 255", x.type(255), 2);
        due("type 256", x.type(256), BAD);
        for (int c : WRONG) {
            due("type " + c, x.type(c), BAD);
        }
        for (int k = 3; k <= 150; k++) {
            due("type " + k, x.type(' '), k);
        }
        due("type full", x.type(' '), FULL);
        due("BAD ahead of FULL", x.type(256), BAD);
        due("count full", x.count(5), 150);
        due("clear", x.clear(), 150);
        due("clear again", x.clear(), 0);
        due("type behind clear", x.type('n'), 1);
    }

    private static void goodPages() {
        StripPage x = new StripPage();
        due("empty page", x.page(), 0);
        typeAll(x, "   ");
        due("blank page", x.page(), 0);
        due("text behind page", x.count(5), 0);
        typeAll(x, "  n  3  ;  s  ab  .c  d.  ;w  abcdef;  ");
        due("wide page", x.page(), 3);
        due("its lines", x.count(0), 3);
        due("its sign", x.sign(0, 2, 1), '.');
        due("its word", x.word(0, 5), 'f');
        typeAll(x, "n1;s ab;s n.;s s.;s w.;s ..;s zz;w a;w a;w n;w s;w w;w b;w z;w zzzzzz;");
        due("full page", x.page(), 15);
        due("its strips", x.count(1), 6);
        due("its words, one told twice", x.count(2), 8);
        typeAll(x, "w a;");
        due("page without lines", x.page(), 1);
        due("lines are 2 again", x.count(0), 2);
        due("strips are gone", x.count(1), 0);
        typeAll(x, "w n;s ab cd;");
        due("word ahead of strip", x.page(), 2);
        typeAll(x, "n1;s aa;w a;w a;");
        x.page();
        due("an old word is gone", x.word(1, 0) == 'a' ? x.now(2) : -99, 0);
    }

    private static void readAnew() {
        StripPage x = read("n1;s ab;s cd;w ab;");
        x.swaps(0, 1);
        x.turn(1);
        x.takes(0);
        x.sees(0, 1);
        x.keep(1);
        x.mark(0, 0);
        due("either of one", x.either(0), 0);
        typeAll(x, "n1;s ab;s cd;w cd;w dc;w ab;w abcd;");
        due("anew", x.page(), 7);
        due("anew order", x.now(3), 12);
        due("anew turned", x.strip(1, 1), 0);
        due("anew seen", x.count(3), 0);
        due("anew which", x.which(), 3);
        due("anew undone", x.undo(), STATE);
        due("anew image", x.back(1), STATE);
        due("anew trace stays", x.trace(), 1);
        x.takes(0);
        due("anew either", x.either(0), 2);
    }

    private static void faults() {
        fault("x;", 0);
        fault("N1;", 0);
        fault("sab cd;", 0);
        fault(".;", 0);
        fault(";", 0);
        fault("7;", 0);
        fault("  #", 2);
        fault("n", 1);
        fault("n  ", 3);
        fault("n1", 2);
        fault("n 0;", 2);
        fault("n4;", 1);
        fault("n01;", 1);
        fault("n10;", 1);
        fault("n29;", 1);
        fault("n100;", 1);
        fault("n a;", 2);
        fault("n;", 1);
        fault("n1 1;", 3);
        fault("n1;n1;", 3);
        fault("w a;n1;", 4);
        fault("s ab;", 4);
        fault("s ab cd ef;", 8);
        fault("s ab c;", 5);
        fault("s ab abc;", 5);
        fault("s ab 12;", 5);
        fault("s ab #d;", 5);
        fault("s ab c#;", 5);
        fault("s ab cd", 7);
        fault("s ab cd ", 8);
        fault("s ab", 4);
        fault("s", 1);
        fault("n1;s aa;s aa;s aa;s aa;s aa;s aa;s aa;", 33);
        fault("n1;s aa;s aa;s aa;s aa;s aa;s aa;w a;w a;w a;w a;w a;w a;w a;w a;w #", 65);
        fault("w a.b;", 2);
        fault("w .;", 2);
        fault("w abcdefg;", 2);
        fault("w 5;", 2);
        fault("w ;", 2);
        fault("w", 1);
        fault("w a b;", 4);
        fault("w a1;", 3);
        fault("w a;w", 5);
        fault("w a" + (char) 9 + ";", 3);
        fault("w a;" + (char) 200, 4);
        fault("w aB;", 3);
        // The first of two faults is told, though the second could be seen without reading items.
        fault("s ab;n100#", 4);
    }

    private static void strips() {
        StripPage x = read("n2;s ca .d;s t. og;s az ..;" + WORDS);
        due("place", x.strip(2, 0), 2);
        due("turned", x.strip(2, 1), 0);
        due("letters", x.strip(2, 2), 1 | 1 << 25);
        due("letters of 1", x.strip(1, 2), 1 << 19 | 1 << 14 | 1 << 6);
        x.turn(2);
        due("letters, turned", x.strip(2, 2), 1 | 1 << 25);
        x.takes(2);
        due("place, taken", x.strip(2, 0), NONE);
        due("turned, taken", x.strip(2, 1), 1);
        due("letters, taken", x.strip(2, 2), 1 | 1 << 25);
        due("next", x.strip(0, 3), 1);
        due("next of the last", x.strip(1, 3), NONE);
        due("next of one taken", x.strip(2, 3), NONE);
        due("no strip", x.strip(3, 0), BAD);
        due("no what", x.strip(0, 4), BAD);
        for (int n : WRONG) {
            due("strip " + n, x.strip(n, 0), BAD);
            due("strip what " + n, x.strip(0, n), BAD);
        }
        StripPage y = read("n1;s a.;s b.;s cd;w a;w b;w cd;");
        due("next, unlike ones", y.strip(0, 3), NONE);
        StripPage z = read("n1;s ab;s cd;s ..;w abcd;");
        due("next, alike in all", z.strip(0, 3), 1);
        due("next, last in one", z.strip(1, 3), NONE);
        due("next, sometimes", z.strip(2, 3), NONE);
    }

    private static void signs() {
        StripPage x = read("n2;s ca .d;s t. og;w cat;w a;");
        String[] told = {"ca", ".d", "t.", "og"};
        x.turn(1);
        x.takes(0);
        for (int k = 0; k < 8; k++) {
            due("sign " + k, x.sign(k / 4, k / 2 % 2, k % 2), told[k / 2].charAt(k % 2));
        }
        due("sign, no strip", x.sign(2, 0, 0), BAD);
        due("sign, no line", x.sign(0, 2, 0), BAD);
        due("sign, no i", x.sign(0, 0, 2), BAD);
        for (int n : WRONG) {
            due("sign s " + n, x.sign(n, 0, 0), BAD);
            due("sign line " + n, x.sign(0, n, 0), BAD);
            due("sign i " + n, x.sign(0, 0, n), BAD);
            due("place " + n, x.place(n), BAD);
            due("word " + n, x.word(n, 0), BAD);
            due("word i " + n, x.word(0, n), BAD);
        }
        due("place 0", x.place(0), 1);
        due("place 1", x.place(1), BAD);
        due("word 0, 2", x.word(0, 2), 't');
        due("word 0, 3", x.word(0, 3), NONE);
        due("word 1, 0", x.word(1, 0), 'a');
        due("word 1, 5", x.word(1, 5), NONE);
        due("word 1, 6", x.word(1, 6), BAD);
        due("word 2", x.word(2, 0), BAD);
    }

    private static void changes() {
        StripPage x = read("n1;s a.;s b.;s c.;s d.;s e.;w a;w b;w c;w d;w e;");
        due("swaps", x.swaps(1, 3), 1);
        due("swapped", x.now(3), 14325);
        due("swaps back", x.swaps(3, 1), 1);
        due("swapped back", x.now(3), 12345);
        due("moves to the right", x.moves(1, 3), 1);
        due("moved to the right", x.now(3), 13425);
        due("moves to the left", x.moves(4, 0), 1);
        due("moved to the left", x.now(3), 51342);
        due("turn", x.turn(2), 1);
        due("not right now", x.swaps(0, 1), 0);
        due("turn again", x.turn(2), 0);
        due("takes", x.takes(2), 4);
        due("taken", x.now(3), 1542);
        due("takes again", x.takes(2), STATE);
        due("turn of one taken", x.turn(2), STATE);
        due("lays of one there", x.lays(1), STATE);
        due("swaps behind the end", x.swaps(0, 4), BAD);
        due("moves behind the end", x.moves(4, 0), BAD);
        due("swaps alike", x.swaps(1, 1), BAD);
        due("moves alike", x.moves(1, 1), BAD);
        due("turn 5", x.turn(5), BAD);
        due("takes 5", x.takes(5), BAD);
        due("lays 5", x.lays(5), BAD);
        for (int n : WRONG) {
            due("swaps p " + n, x.swaps(n, 0), BAD);
            due("swaps q " + n, x.swaps(0, n), BAD);
            due("moves p " + n, x.moves(n, 0), BAD);
            due("moves q " + n, x.moves(0, n), BAD);
            due("turn " + n, x.turn(n), BAD);
            due("takes " + n, x.takes(n), BAD);
            due("lays " + n, x.lays(n), BAD);
        }
        due("refused: nothing changed", x.now(3), 1542);
        due("refused: nothing to be undone", x.count(4), 8);
        due("lays", x.lays(2), 5);
        due("laid at the right end", x.now(3), 15423);
        StripPage y = read("n2;s ab cd;s ef gh;w abef;w cdgh;w efab;w ghcd;w abhg;");
        due("lines right behind swaps", y.swaps(0, 1), 2);
        due("lines right behind moves", y.moves(0, 1), 2);
        y.turn(1);
        due("turned line 0", y.reads(0, 2), 'h');
        due("turned line 0, i 3", y.reads(0, 3), 'g');
        due("turned line 1", y.reads(1, 2), 'f');
        due("one line right", y.now(1), 1);
        y.takes(1);
        y.lays(1);
        due("laid as it was turned", y.strip(1, 1), 1);
    }

    private static void undoing() {
        StripPage x = read("n1;s ab;s cd;s ef;w ab;");
        due("undo, none", x.undo(), STATE);
        x.swaps(0, 2);
        x.moves(0, 2);
        x.turn(1);
        x.takes(0);
        x.lays(0);
        due("ahead of undo", x.now(3), 231);
        due("undo lays", x.undo(), 4);
        due("undone lays", x.now(3), 23);
        due("undo takes", x.undo(), 3);
        due("undone takes", x.now(3), 213);
        due("undo turn", x.undo(), 2);
        due("undone turn", x.strip(1, 1), 0);
        due("undo moves", x.undo(), 1);
        due("undone moves", x.now(3), 321);
        due("undo swaps", x.undo(), 0);
        due("undone swaps", x.now(3), 123);
        for (int k = 0; k < 12; k++) {
            x.moves(0, 2);
            due("known " + k, x.count(4), Math.min(10, k + 1));
        }
        for (int k = 9; k >= 0; k--) {
            due("undo " + k, x.undo(), k);
        }
        due("older ones are lost", x.undo(), STATE);
        due("as ahead of the oldest known", x.now(3), 312);
        x.moves(0, 1);
        due("undo of one more", x.undo(), 0);
    }

    private static void nowAndLines() {
        StripPage x = read("n3;s ca .d ..;s t. og ..;s at ee ..;" + WORDS);
        int[] now = {3, 5, 2, 123, 4, NONE};
        for (int what = 0; what < now.length; what++) {
            due("now " + what, x.now(what), now[what]);
        }
        due("now 6", x.now(6), BAD);
        int[] lines = {2, 2, 5, 1, 0, 5, 0, 0, 0};
        for (int k = 0; k < lines.length; k++) {
            due("line " + k, x.line(k / 3, k % 3), lines[k]);
        }
        due("line 3", x.line(3, 0), BAD);
        due("line what 3", x.line(0, 3), BAD);
        String[] read = {"cat.at", ".dogee", "......"};
        for (int k = 0; k < 18; k++) {
            due("reads " + k, x.reads(k / 6, k % 6), read[k / 6].charAt(k % 6));
        }
        due("reads 6", x.reads(0, 6), BAD);
        due("reads line 3", x.reads(3, 0), BAD);
        for (int n : WRONG) {
            due("now " + n, x.now(n), BAD);
            due("line " + n, x.line(n, 0), BAD);
            due("line what " + n, x.line(0, n), BAD);
            due("reads line " + n, x.reads(n, 0), BAD);
            due("reads i " + n, x.reads(0, n), BAD);
        }
        x.takes(2);
        due("right then", x.now(1), 7);
        due("reads at the end", x.reads(0, 4), BAD);
        due("a run longer than all words", read("n1;s aa;s aa;s aa;s aa;w aaaaaa;").now(1), 0);
        due("a part of a word", read("n1;s aa;w aaa;").now(1), 0);
        due("more than a word", read("n1;s aa;w a;").now(1), 0);
    }

    private static void mostWords() {
        String words = "w abcdef;w bcdefa;w cdefab;w defabc;w efabcd;w fabcde;w gabcde;w habcde;";
        StripPage x = read("n1;s ha;s bc;s de;s ..;" + words);
        due("the last of most words", x.now(1), 1);
        due("its last letter", x.word(7, 5), 'e');
        StripPage y = read("n1;s ab;s cd;s ef;" + words);
        due("the first of most words", y.now(1), 1);
        y.swaps(0, 1);
        due("none of most words", y.now(1), 0);
    }

    private static void movesNeeded() {
        String text = "n1;s .a;s bc;s de;s f.;s ..;w abcdef;w abcde;";
        StripPage x = read(text);
        due("no move", x.now(5), 0);
        x.moves(0, 3);
        due("one move", x.now(5), 1);
        x = read(text);
        x.swaps(0, 3);
        due("two moves", x.now(5), 2);
        x.swaps(1, 2);
        due("three moves", x.now(5), 3);
        due("ahead of it", x.now(3), 43215);
        x.takes(3);
        due("another order that is right", x.now(5), 2);
        x.turn(1);
        due("no order at all", x.now(5), NONE);
    }

    private static void aliens() {
        StripPage x = read("n1;s ab;s cd;s xy;w abcd;w cdxy;w q;");
        due("aliens", x.now(4), 1 | 4);
        x.takes(0);
        due("aliens of those that lie there", x.now(4), 0);
        x.takes(1);
        due("alien alone", x.now(4), 4);
        x.takes(2);
        due("none there", x.now(4), 0);
    }

    private static void orders() {
        StripPage x = read("n1;s ab;s cd;s .a;w cdab;w abcd;w a;");
        due("orders", x.orders(0), 2);
        due("first", x.orders(1), 123);
        x.takes(2);
        due("orders of two", x.orders(0), 2);
        x.turn(1);
        due("orders, none", x.orders(0), 0);
        due("first, none", x.orders(1), NONE);
        due("orders 2", x.orders(2), BAD);
        StripPage y = read("n1;s b.;s .a;s ab;s zz;w abb;w a;");
        y.takes(3);
        due("one order", y.orders(0) * 1000 + y.orders(1), 1312);
        StripPage z = read("n1;s ab;s ..;s ..;w ab;");
        z.swaps(0, 2);
        due("first, least number", z.orders(1), 123);
        due("alike strips are two", read("n1;s ..;s ..;").orders(0), 2);
        for (int n : WRONG) {
            due("orders " + n, x.orders(n), BAD);
            due("either " + n, x.either(n), BAD);
            due("best " + n, x.best(n), BAD);
            due("odds " + n, x.odds(n), BAD);
        }
    }

    private static void eitherWay() {
        StripPage x = read("n2;s ba ..;s .. cd;w ab;w cd;w dc;");
        due("either", x.either(0), 2);
        due("either first", x.either(1), 12);
        due("either turned", x.either(2), 3);
        due("either 3", x.either(3), BAD);
        x.turn(0);
        x.turn(1);
        x.swaps(0, 1);
        due("either, not as they are", x.either(0) * 1000 + x.either(1) * 10 + x.either(2), 2123);
        x.takes(0);
        due("either of those that lie there", x.either(0), 2);
        due("their order", x.either(1), 2);
        due("their ways", x.either(2), 0);
        x.undo();
        due("either, undone", x.either(0) * 10 + x.either(2), 23);
        StripPage y = read("n1;s ab;s dc;s xy;w abcd;");
        due("either, none", y.either(0), 0);
        due("either first, none", y.either(1), NONE);
        due("either turned, none", y.either(2), NONE);
        y.takes(2);
        due("either, one", y.either(0), 1);
        due("its order", y.either(1), 12);
        due("its way", y.either(2), 2);
        // The least order needs a strip turned, though another order is right without.
        StripPage z = read("n1;s ba;s cd;w abcd;w cdba;");
        due("least order first", z.either(1), 12);
        due("its turned ones", z.either(2), 1);
        StripPage most = read("n3;s .. .. ..;s .. .. ..;s .. .. ..;s .. .. ..;s .. .. ..;s .. .. ..;");
        due("all blank", most.either(0), 720 * 64);
        due("all blank, orders", most.orders(0), 720);
    }

    private static void bestOnes() {
        StripPage x = read("n1;s ab;s cd;s ef;w cdab;w ef;");
        due("best of none right", x.best(0), 0);
        due("first of all", x.best(1), 123);
        StripPage y = read("n1;s ab;s c.;s .d;w d;w abc;w dab;w c;");
        due("best", y.best(0), 4);
        due("best order", y.best(1), 123);
        StripPage z = read("n2;s ab ..;s .c ..;s d. xy;w dab;w dabc;w c;w xy;");
        due("best, all lines", z.best(0), 3);
        due("best order, all lines", z.best(1), 132);
        due("best 2", z.best(2), BAD);
        StripPage t = read("n2;s ab ..;s .c ..;s .. d.;w dab;w c;");
        due("best, one not turned", t.best(0) * 1000 + t.best(1), 1123);
        t.turn(2);
        due("best, turned as it is", t.best(0) * 1000 + t.best(1), 4231);
        t.takes(0);
        due("best of those that lie there", t.best(0) * 1000 + t.best(1), 1023);
    }

    private static void oddsOfChance() {
        StripPage x = read("n1;s a.;s .b;s cd;w a;w b;w cd;");
        due("odds upper", x.odds(0), 1);
        due("odds lower", x.odds(1), 6);
        due("odds 2", x.odds(2), BAD);
        x.turn(0);
        due("odds turned", x.odds(0) * 1000 + x.odds(1), 1003);
        StripPage y = read("n1;s xy;s ab;");
        due("no odds", y.odds(0), 0);
        due("no odds, lower", y.odds(1), 1);
        StripPage z = read("n1;s ..;s ..;");
        due("sure", z.odds(0), 1);
        due("sure, lower", z.odds(1), 1);
    }

    private static void seeing() {
        StripPage x = read("n1;s ab;s bc;s cd;s .d;w a;");
        due("which, nothing seen", x.which(), 15);
        // a parts 1:3, b parts 2:2, c and d too.
        due("look", x.look(), 1);
        x.takes(1);
        due("sees", x.sees(2, 1), 1);
        due("which, taken ones too", x.which(), 6);
        due("look at two", x.look(), 1);
        due("sees not", x.sees(3, 0), 2);
        due("which one", x.which(), 2);
        due("look at one", x.look(), NONE);
        due("sees again", x.sees(3, 0), 3);
        due("sees the contrary", x.sees(3, 1), 4);
        due("which none", x.which(), 0);
        due("look at none", x.look(), NONE);
        due("sees 5", x.sees(25, 0), 5);
        due("sees 6", x.sees(0, 0), 6);
        due("sees 7", x.sees(0, 0), FULL);
        due("BAD ahead of FULL", x.sees(26, 0), BAD);
        due("there 2", x.sees(0, 2), BAD);
        for (int n : WRONG) {
            due("sees " + n, x.sees(n, 0), BAD);
            due("there " + n, x.sees(0, n), BAD);
        }
        due("seen", x.count(3), 6);
        due("forget", x.forget(), 6);
        due("forget again", x.forget(), 0);
        due("which, forgotten", x.which(), 15);
        StripPage alike = read("n1;s ab;s ba;s b.;w a;");
        alike.takes(2);
        due("look parts a taken one", alike.look(), 0);
        alike.sees(0, 1);
        due("none parts them", alike.look(), NONE);
        due("three to one is worse", read("n1;s ab;s .b;s bz;s cz;").look(), 25);
    }

    private static void marks() {
        StripPage x = read("n2;s ca .d;s t. og;s at e.;s .. ..;" + WORDS);
        int[] traces = {1, 11, 101, 1011, 10101, 100001};
        int[] marks = {1, 1, -3, 2, -2, 3};
        x.turn(2);
        x.turn(2);
        long trace = 0;
        for (int kind = 0; kind < 6; kind++) {
            due("mark " + kind, x.mark(kind, 1), marks[kind]);
            trace += traces[kind];
            due("trace " + kind, x.trace(), trace);
        }
        x.turn(3);
        due("turned strip", x.mark(0, 3), 4);
        due("turned creased", x.mark(1, 3), 14);
        due("turned torn", x.mark(3, 3), 28);
        x.takes(3);
        due("taken creased", x.mark(1, 3), 14);
        due("taken smudged", x.mark(2, 3), 1);
        due("taken greasy", x.mark(4, 3), 4);
        due("singed", x.mark(5, 3), 6);
        trace = x.trace();
        due("mark, no kind", x.mark(6, 0), NO);
        due("mark, no strip", x.mark(0, 4), NO);
        for (int n : WRONG) {
            due("mark kind " + n, x.mark(n, 0), NO);
            due("mark strip " + n, x.mark(0, n), NO);
        }
        due("no trace of them", x.trace(), trace);
    }

    private static void images() {
        StripPage x = read("n1;s ab;s cd;s ef;w ab;");
        due("back, none", x.back(0), STATE);
        x.turn(2);
        x.takes(0);
        due("keep", x.keep(1), 2);
        due("the other was not kept", x.back(0), STATE);
        x.undo();
        x.undo();
        x.swaps(0, 1);
        x.sees(3, 1);
        x.type('n');
        x.mark(0, 0);
        due("keep the other", x.keep(0), 3);
        due("back", x.back(1), 2);
        due("order then", x.now(3), 23);
        due("turned then", x.strip(2, 1), 1);
        due("seen stays", x.count(3), 1);
        due("text stays", x.count(5), 1);
        due("trace stays", x.trace(), 1);
        due("undone then", x.undo(), 1);
        due("undone then, order", x.now(3), 123);
        due("undone again", x.undo(), 0);
        due("undone again, turned", x.strip(2, 1), 0);
        due("undone again, order", x.now(3), 123);
        x.takes(1);
        x.takes(2);
        due("image is as it was", x.back(1), 2);
        due("known is as it was", x.count(4), 2);
        due("back to the other", x.back(0), 3);
        due("its order", x.now(3), 213);
        due("its known", x.count(4), 1);
        due("keep anew", x.keep(1), 3);
        x.takes(1);
        due("back anew", x.back(1), 3);
        due("keep 2", x.keep(2), BAD);
        due("back 2", x.back(2), BAD);
        for (int n : WRONG) {
            due("keep " + n, x.keep(n), BAD);
            due("back " + n, x.back(n), BAD);
            due("count " + n, x.count(n), BAD);
        }
        due("count 6", x.count(6), BAD);
        StripPage y = read("n1;s ab;s cd;s ef;w ab;");
        y.swaps(0, 1);
        y.keep(0);
        for (int k = 0; k < 12; k++) {
            y.moves(0, 2);
        }
        due("back over lost changes", y.back(0), 3);
        due("undone behind it", y.undo(), 0);
        due("the image's own past", y.now(3), 123);
    }

    public static void main(String[] args) {
        newObject();
        text();
        goodPages();
        readAnew();
        faults();
        strips();
        signs();
        changes();
        undoing();
        nowAndLines();
        mostWords();
        movesNeeded();
        aliens();
        orders();
        eitherWay();
        bestOnes();
        oddsOfChance();
        seeing();
        marks();
        images();
        System.out.println(wrong == 0 ? "all promises hold" : wrong + " answers are not as due");
        if (wrong != 0) {
            System.exit(1);
        }
    }
}
