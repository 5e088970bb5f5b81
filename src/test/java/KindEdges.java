/** Promises 26 to 30: marks, images, counts, the trace. */
final class KindEdges {
    private static final int BAD = Edge.BAD, STATE = Edge.STATE, NONE = Edge.NONE, NO = Edge.NO;
    private static final int[] TRACES = {1, 11, 101, 1011, 10101, 100001};
    private static final String THREE = "n1;s ab;s cd;s ef;w ab;";
    private static final String SIX = "n1;" + "s ab;".repeat(6);

    private KindEdges() {
    }

    static void run() {
        mark();
        markRefused();
        keep();
        back();
        backState();
        count();
        trace();
        lastCall();
    }

    private static void mark() {
        Edge.of(26, "STRIP how many BLANKS it has (1).").reads("n3;s ab cd ef;s .. .. ..;s .. .. .z;s a. cd ef;").due("mark(0, 0)", 0)
                .due("mark(0, 1)", 6).due("mark(0, 2)", 5).due("mark(0, 3)", 1).does("turn(1)", "turn(2)", "takes(3)").due("mark(0, 1)", 6)
                .due("mark(0, 2)", 5).due("mark(0, 3)", 1).reads("n1;s ..;").due("mark(0, 0)", 2);
        Edge.of(26, "CREASED up, and 10, if it is TURNED (10).").reads("n3;s ab cd ef;s .. .. ..;").due("mark(1, 0)", 0).due("mark(1, 1)", 6)
                .does("turn(1)").due("mark(1, 1)", 16).due("mark(1, 0)", 0).does("takes(1)").due("mark(1, 1)", 16).does("undo()", "undo()")
                .due("mark(1, 1)", 6);
        Edge smudged = Edge.of(26, "SMUDGED up less how many STRIPS lie on THE DESK (100).").reads(SIX).due("mark(2, 0)", -6).due("mark(2, 5)", -6)
                .does("takes(5)").due("mark(2, 5)", -5).does("takes(4)", "takes(3)", "takes(2)", "takes(1)").due("mark(2, 0)", -1)
                .due("mark(2, 5)", -1).does("takes(0)").due("mark(2, 0)", 0);
        smudged.anew().reads("n1;s ..;s ..;").due("mark(2, 0)", 0).does("takes(1)").due("mark(2, 0)", 1);
        Edge.of(26, "TORN up times 2 (1000).").reads("n3;s ab cd ef;s .. .. ..;").due("mark(3, 0)", 0).due("mark(3, 1)", 12).does("turn(0)", "turn(1)")
                .due("mark(3, 0)", 20).due("mark(3, 1)", 32);
        Edge.of(26, "GREASY up, and its number (10000).").reads(SIX).due("mark(4, 0)", -6).due("mark(4, 1)", -5).due("mark(4, 5)", -1)
                .does("takes(0)").due("mark(4, 5)", 0).due("mark(4, 0)", -5);
        Edge.of(26, "SINGED up, and how many RUNS are RIGHT now (100000).").reads("n3;" + "s a. a. a.;".repeat(6) + "w a;").due("mark(5, 0)", 21)
                .due("mark(5, 5)", 21).does("takes(5)").due("mark(5, 5)", 18).does("turn(4)").due("mark(5, 1)", 18)
                .does("turn(0)").due("mark(5, 1)", 12).does("takes(0)", "takes(1)", "takes(2)", "takes(3)", "takes(4)").due("mark(5, 0)", 3);
        // -1 is a mark like others: what is none is told by NO.
        Edge.of(26, "`NO = -1000000`: What none is, where a number may be below 0.").reads("n1;s ab;").due("mark(2, 0)", -1).due("trace()", 101)
                .due("mark(4, 0)", -1).due("mark(2, 1)", NO).due("trace()", 10202);
    }

    private static void markRefused() {
        Edge.of(26, "MARK. NO: BAD.").reads(SIX).refuses(NO, Edge.beyond("mark(#, 0)", 6)).refuses(NO, Edge.beyond("mark(#, 5)", 6))
                .refuses(NO, Edge.beyond("mark(0, #)", 6)).refuses(NO, Edge.beyond("mark(5, #)", 6))
                .refuses(NO, "mark(-1, -1)", "mark(6, 6)", "mark(MIN, MIN)", "mark(MAX, MAX)").due("mark(0, 5)", 0).due("trace()", 1)
                .refuses(NO, "mark(6, 0)", "mark(0, 6)");
        Edge few = Edge.of(26, "there is no such thing").reads("n1;s ab;");
        for (int kind = 0; kind < 6; kind++) {
            few.refuses(NO, Edge.beyond("mark(" + kind + ", #)", 1)).anew().refuses(NO, Edge.beyond("mark(" + kind + ", #)", 0));
        }
    }

    private static void keep() {
        Edge many = Edge.of(27, "An IMAGE is kept: how many lie on THE DESK.").due("keep(0)", 0).due("keep(1)", 0).reads(SIX).due("keep(0)", 6)
                .does("takes(3)").due("keep(1)", 5).due("keep(0)", 5).does("takes(0)", "takes(1)", "takes(2)", "takes(4)", "takes(5)")
                .due("keep(0)", 0).due("back(1)", 5).due("back(0)", 0);
        many.anew().reads(THREE).does("turn(0)", "keep(0)").due("count(4)", 1).does("takes(1)", "keep(0)").due("count(4)", 2).does("lays(1)")
                .due("back(0)", 2).due("now(3)", 13).due("count(4)", 2);
        Edge bad = Edge.of(27, "how many lie on THE DESK. BAD.").reads(THREE).refuses(BAD, Edge.beyond("keep(#)", 2)).does("keep(0)", "takes(0)")
                .refuses(BAD, Edge.beyond("keep(#)", 2));
        bad.anew().refuses(BAD, Edge.beyond("keep(#)", 2));
    }

    private static void back() {
        Edge all = Edge.of(28, "IMAGES 0, 1 keep NOW (who lies where, who is TURNED, what may be UNDONE); nothing else.").reads(THREE)
                .does("swaps(0, 2)", "turn(1)", "keep(1)", "undo()", "undo()", "takes(2)", "keep(0)", "lays(2)", "turn(2)");
        all.twin().due("back(1)", 3).due("now(3)", 321).due("strip(1, 1)", 1).due("strip(2, 1)", 0).due("undo()", 1).due("strip(1, 1)", 0)
                .due("undo()", 0).due("now(3)", 123).due("undo()", STATE);
        all.twin().due("back(0)", 2).due("now(3)", 12).due("strip(2, 0)", NONE).due("strip(2, 1)", 0).due("undo()", 0).due("now(3)", 123);
        // An image is not used up, nor changed by what is done behind it.
        all.twin().does("back(1)", "undo()", "undo()", "takes(0)", "takes(1)", "takes(2)").due("back(1)", 3).due("now(3)", 321)
                .due("count(4)", 2).due("undo()", 1).due("back(0)", 2).due("back(1)", 3).due("undo()", 1);
        Edge.of(28, "nothing else").reads(THREE).does("keep(0)", "sees(0, 1)", "mark(0, 0)", "type(35)", "takes(0)", "keep(1)")
                .due("back(0)", 3).due("count(3)", 1).due("which()", 1).due("trace()", 1).due("count(5)", 1).due("page()", -10).due("back(1)", 2)
                .does("forget()", "clear()").due("back(0)", 3).due("count(3)", 0).due("count(5)", 0).due("which()", 7);
        tenInAnImage();
        Edge none = Edge.of(28, "All of that becomes as an IMAGE has it: how many lie on THE DESK.").reads(THREE).does("keep(0)", "turn(0)", "turn(1)")
                .due("back(0)", 3).due("count(4)", 0).refuses(STATE, "undo()");
        none.anew().reads(THREE).does("takes(0)", "takes(1)", "takes(2)").due("keep(0)", 0).does("undo()").due("back(0)", 0).due("now(0)", 0)
                .due("count(4)", 3).due("undo()", 2).due("now(3)", 3);
        none.anew().due("keep(1)", 0).due("back(1)", 0);
    }

    private static void tenInAnImage() {
        Edge ten = Edge.of(28, "what may be UNDONE").reads(THREE).does("turn(2)");
        for (int k = 0; k < 10; k++) {
            ten.does("moves(0, 2)");
        }
        ten.does("keep(0)");
        for (int k = 0; k < 11; k++) {
            ten.does("turn(0)");
        }
        ten.due("back(0)", 3).due("count(4)", 10).due("now(3)", 231).due("strip(0, 1)", 0);
        for (int k = 9; k >= 0; k--) {
            ten.due("undo()", k);
        }
        ten.due("now(3)", 123).due("strip(2, 1)", 1).due("undo()", STATE).due("back(0)", 3).due("count(4)", 10).does("turn(0)")
                .due("count(4)", 10).due("undo()", 9).due("now(3)", 231);
    }

    private static void backState() {
        Edge state = Edge.of(28, "BAD; STATE: none was kept.").reads(THREE).refuses(STATE, "back(0)", "back(1)")
                .refuses(BAD, Edge.beyond("back(#)", 2));
        state.twin().does("takes(0)", "keep(0)").refuses(STATE, "back(1)").due("back(0)", 2).refuses(BAD, Edge.beyond("back(#)", 2));
        state.twin().does("takes(0)", "keep(1)").refuses(STATE, "back(0)").due("back(1)", 2).refuses(BAD, Edge.beyond("back(#)", 2));
        state.anew().refuses(STATE, "back(0)", "back(1)").refuses(BAD, Edge.beyond("back(#)", 2)).due("keep(2)", BAD).due("keep(-1)", BAD)
                .refuses(STATE, "back(0)", "back(1)");
        Edge gone = Edge.of(28, "IMAGES are gone").reads(THREE).does("keep(0)", "keep(1)").types("#").due("page()", -10).due("back(0)", 3)
                .due("back(1)", 3).does("clear()").due("back(1)", 3).due("page()", 0).refuses(STATE, "back(0)", "back(1)");
        gone.reads(THREE).refuses(STATE, "back(0)", "back(1)").does("keep(1)").refuses(STATE, "back(0)").due("back(1)", 3);
    }

    private static void count() {
        Edge most = Edge.of(29, "0 LINES, 1 STRIPS, 2 WORDS, 3 SEEN, 4 how many may be UNDONE, 5 bytes of THE TEXT.")
                .reads("n3;" + "s ab cd ef;".repeat(6) + "w a;".repeat(8));
        for (int k = 0; k < 12; k++) {
            most.does("turn(0)");
        }
        most.does("sees(0, 0)", "sees(0, 0)", "sees(0, 0)", "sees(0, 0)", "sees(0, 0)", "sees(0, 0)").types(" ".repeat(150))
                .due("type(32)", Edge.FULL).due("sees(0, 0)", Edge.FULL).dues("count(#)", 3, 6, 8, 6, 10, 150);
        most.anew().dues("count(#)", 2, 0, 0, 0, 0, 0).reads("n1;").dues("count(#)", 1, 0, 0, 0, 0, 0);
        // Strips that were taken are strips still.
        most.anew().reads(THREE).does("takes(0)", "takes(1)", "takes(2)").dues("count(#)", 1, 3, 1, 0, 3, 0);
        Edge bad = Edge.of(29, "5 bytes of THE TEXT. BAD.").refuses(BAD, Edge.beyond("count(#)", 6)).asks("count(0)", "count(5)");
        bad.reads(THREE).refuses(BAD, Edge.beyond("count(#)", 6));
    }

    private static void trace() {
        Edge.of(30, "THE TRACE.").due("trace()", 0).due("trace()", 0).reads(THREE).due("trace()", 0);
        Edge often = Edge.of(30, "numbers in brackets come to THE TRACE as often as mark() asks that body").reads("n1;s ..;");
        long all = 0;
        for (int kind = 0; kind < TRACES.length; kind++) {
            often.anew().reads("n1;s ..;").does("mark(" + kind + ", 0)").due("trace()", TRACES[kind]).does("mark(" + kind + ", 0)")
                    .due("trace()", 2 * TRACES[kind]);
            often.does("mark(" + kind + ", 0)");
            all += TRACES[kind];
            often.due("trace()", all);
        }
        Edge.of(30, "Refused, and nothing changes").reads("n1;s ..;").due("mark(6, 0)", NO).due("mark(-1, 0)", NO).due("mark(5, 1)", NO)
                .due("mark(5, -1)", NO).due("trace()", 0).does("mark(0, 0)").due("mark(MAX, MIN)", NO).due("trace()", 1);
        // Only mark() brings something to it, and nothing is told to take anything away.
        Edge.of(30, "come to THE TRACE").reads(THREE).does("keep(0)", "mark(0, 0)", "turn(0)", "undo()", "back(0)", "sees(0, 1)", "forget()",
                "type(32)", "clear()").due("now(2)", 0).due("trace()", 1).types("#").due("page()", -10).due("trace()", 1).does("clear()", "page()")
                .due("trace()", 1);
    }

    private static void lastCall() {
        Edge last = Edge.of(30, "An object is used for at most 512 calls after it has been made").reads("n1;s ..;");
        for (int k = 0; k < Calls.MOST - 10; k++) {
            last.due("mark(5, 0)", 2);
        }
        last.due("trace()", 100001L * (Calls.MOST - 10));
    }
}
