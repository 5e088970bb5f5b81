import java.util.Arrays;

/** "Refused, and nothing changes, the first of these: BAD, STATE, FULL", for each promise that refuses, in states unlike one another. */
final class RefusalEdges {
    private static final String SENTENCE = "Refused, and nothing changes, the first of these: BAD (a number is not as told, or there is no such"
            + " thing), STATE (as told), FULL.";
    private static final int BAD = Edge.BAD, STATE = Edge.STATE, FULL = Edge.FULL, NO = Edge.NO;
    /** In each state: nothing was told; some lie there; none lies there; all that can be full is. */
    private static final int NEW = 0, SOME = 1, TAKEN = 2, MOST = 3;
    private static final int[] LINES = {2, 2, 1, 3};
    private static final int[] STRIPS = {0, 3, 2, 6};
    private static final int[] WORDS = {0, 2, 1, 3};
    private static final int[] LYING = {0, 2, 0, 6};

    private RefusalEdges() {
    }

    static void run() {
        for (int state = NEW; state <= MOST; state++) {
            badNumbers(state);
            badPlaces(state);
        }
        states();
        full();
        refusedPages();
    }

    private static Edge made(int promise, int state) {
        Edge edge = Edge.of(promise, SENTENCE);
        switch (state) {
            case SOME:
                return edge.reads("n2;s ab cd;s .e fg;s h. ..;w ab;w cd;")
                        .does("turn(1)", "keep(0)", "takes(0)", "swaps(0, 1)", "sees(0, 1)", "mark(5, 2)").types("n1;s zz;w zz;");
            case TAKEN:
                return edge.reads("n1;s ab;s cd;w ab;").does("turn(1)", "takes(0)", "takes(1)", "keep(1)").types("w #");
            case MOST:
                edge.reads("n3;" + "s ab cd ef;".repeat(3) + "s .. a. .z;".repeat(3) + "w a;w abcdef;w z;").does("keep(0)");
                for (int k = 0; k < 11; k++) {
                    edge.does(k % 2 == 0 ? "moves(0, 5)" : "turn(3)");
                }
                return edge.does("keep(1)", "sees(0, 1)", "sees(1, 0)", "sees(0, 1)", "sees(2, 0)", "sees(3, 0)", "sees(25, 0)")
                        .types("n1;s zz;w zz;" + " ".repeat(137));
            default:
                return edge;
        }
    }

    /** The other numbers are good ones, where there are such. */
    private static void badNumbers(int state) {
        int lines = LINES[state];
        int strips = STRIPS[state];
        int words = WORDS[state];
        refused(state, 2, "type(#)", 256);
        refused(state, 5, "strip(#, 0)", strips);
        refused(state, 5, "strip(0, #)", 4);
        refused(state, 6, "sign(#, 0, 0)", strips);
        refused(state, 6, "sign(0, #, 0)", lines);
        refused(state, 6, "sign(0, 0, #)", 2);
        refused(state, 8, "word(#, 0)", words);
        refused(state, 8, "word(0, #)", 6);
        refused(state, 11, "turn(#)", strips);
        refused(state, 12, "takes(#)", strips);
        refused(state, 13, "lays(#)", strips);
        refused(state, 15, "now(#)", 6);
        refused(state, 16, "line(#, 0)", lines);
        refused(state, 16, "line(0, #)", 3);
        refused(state, 18, "orders(#)", 2);
        refused(state, 19, "either(#)", 3);
        refused(state, 20, "best(#)", 2);
        refused(state, 21, "odds(#)", 2);
        refused(state, 22, "sees(#, 1)", 26);
        refused(state, 22, "sees(0, #)", 2);
        refused(state, 27, "keep(#)", 2);
        refused(state, 28, "back(#)", 2);
        refused(state, 29, "count(#)", 6);
        made(26, state).refuses(NO, Edge.beyond("mark(#, 0)", 6)).refuses(NO, Edge.beyond("mark(0, #)", strips));
    }

    private static void badPlaces(int state) {
        int lying = LYING[state];
        refused(state, 7, "place(#)", lying);
        refused(state, 9, "swaps(#, 0)", lying);
        refused(state, 9, "swaps(1, #)", lying);
        refused(state, 9, "swaps(#, #)", 0);
        refused(state, 10, "moves(#, 0)", lying);
        refused(state, 10, "moves(1, #)", lying);
        refused(state, 10, "moves(#, #)", 0);
        refused(state, 17, "reads(#, 0)", LINES[state]);
        refused(state, 17, "reads(0, #)", 2 * lying);
    }

    private static void refused(int state, int promise, String call, int first) {
        made(promise, state).refuses(BAD, Edge.beyond(call, first));
    }

    private static void states() {
        made(11, SOME).refuses(STATE, "turn(0)");
        made(12, SOME).refuses(STATE, "takes(0)");
        made(13, SOME).refuses(STATE, "lays(1)", "lays(2)");
        made(28, SOME).refuses(STATE, "back(1)");
        made(11, TAKEN).refuses(STATE, "turn(0)", "turn(1)");
        made(12, TAKEN).refuses(STATE, "takes(0)", "takes(1)");
        made(28, TAKEN).refuses(STATE, "back(0)");
        made(13, MOST).refuses(STATE, "lays(0)", "lays(1)", "lays(2)", "lays(3)", "lays(4)", "lays(5)");
        made(14, NEW).refuses(STATE, "undo()");
        made(28, NEW).refuses(STATE, "back(0)", "back(1)");
        made(14, SOME).does("undo()", "undo()", "undo()").refuses(STATE, "undo()");
        Edge undone = made(14, MOST);
        for (int k = 9; k >= 0; k--) {
            undone.due("undo()", k);
        }
        undone.refuses(STATE, "undo()");
    }

    private static void full() {
        made(2, MOST).refuses(FULL, "type(0)", "type(32)", "type(59)", "type(255)");
        made(22, MOST).refuses(FULL, "sees(0, 0)", "sees(0, 1)", "sees(25, 0)", "sees(25, 1)");
    }

    private static void refusedPages() {
        made(4, TAKEN).refuses(-12, "page()");
        made(4, SOME).types("w").refuses(-10 - 14, "page()");
        made(4, NEW).types("n4;").refuses(-11, "page()");
        // Behind a page that was refused again and again all stands as it did: the text, too.
        Edge again = made(4, SOME).types("w");
        String[] pages = new String[40];
        Arrays.fill(pages, "page()");
        for (String page : pages) {
            again.due(page, -10 - 14);
        }
        again.dues("count(#)", 2, 3, 2, 1, 3, 14).due("now(3)", 32).types(" a;").due("page()", 4).dues("count(#)", 1, 1, 2, 0, 0, 0);
    }
}
