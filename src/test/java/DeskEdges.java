/** Promises 9 to 17: what is done with the strips on the desk, and what can be read there. */
final class DeskEdges {
    private static final int BAD = Edge.BAD, STATE = Edge.STATE, NONE = Edge.NONE;
    private static final String SIX = "n1;s a.;s b.;s c.;s d.;s e.;s f.;w a;w b;w c;w d;w e;w f;";

    private DeskEdges() {
    }

    static void run() {
        swaps();
        moves();
        alikeOnes();
        turn();
        takes();
        lays();
        undo();
        tenAndEleven();
        now();
        line();
        runs();
        reads();
    }

    private static void swaps() {
        Edge.of(9, "SWAPPED: the STRIPS of two PLACES change.").reads(SIX).does("swaps(0, 5)").due("now(3)", 623451).does("swaps(5, 0)")
                .due("now(3)", 123456).does("swaps(2, 3)").due("now(3)", 124356).does("swaps(5, 1)").due("now(3)", 164352);
        Edge lines = Edge.of(9, "SWAPPED: how many LINES are RIGHT then.");
        lines.anew().reads("n3;s .. .. ..;s .. .. ..;").due("swaps(0, 1)", 3).due("swaps(1, 0)", 3);
        lines.anew().reads("n3;s ab ab ab;s cd cd cd;").due("swaps(0, 1)", 0);
        lines.anew().reads("n3;s ab cd ..;s cd ab ..;w abcd;").due("swaps(0, 1)", 2).due("now(1)", 6).due("swaps(0, 1)", 2).due("now(1)", 5);
        Edge bad = Edge.of(9, "how many LINES are RIGHT then. BAD").reads(SIX).refuses(BAD, Edge.beyond("swaps(#, 0)", 6))
                .refuses(BAD, Edge.beyond("swaps(5, #)", 6)).refuses(BAD, "swaps(-1, 6)", "swaps(MIN, MAX)", "swaps(MAX, MIN)");
        bad.does("takes(5)").refuses(BAD, "swaps(0, 5)", "swaps(5, 0)").does("swaps(0, 4)");
        bad.anew().reads("n1;s ab;").refuses(BAD, "swaps(0, 1)", "swaps(1, 0)").does("takes(0)").refuses(BAD, "swaps(0, 1)", "swaps(1, 0)");
        bad.anew().refuses(BAD, "swaps(0, 1)", "swaps(1, 0)");
    }

    private static void moves() {
        Edge.of(10, "MOVED: the STRIP of a PLACE comes to another one, those between make room.").reads(SIX).does("moves(0, 5)")
                .due("now(3)", 234561).does("moves(5, 0)").due("now(3)", 123456).does("moves(1, 4)").due("now(3)", 134526)
                .does("moves(4, 1)").due("now(3)", 123456).does("moves(2, 3)").due("now(3)", 124356).does("moves(3, 2)").due("now(3)", 123456);
        Edge lines = Edge.of(10, "MOVED: how many LINES are RIGHT then.");
        lines.anew().reads("n3;s .. .. ..;s .. .. ..;").due("moves(0, 1)", 3).due("moves(1, 0)", 3);
        lines.anew().reads("n3;s ab ab ab;s cd cd cd;").due("moves(0, 1)", 0);
        lines.anew().reads("n3;s ab cd ..;s cd ab ..;s .. .. ..;w abcd;").due("moves(2, 0)", 2).due("moves(2, 1)", 2)
                .due("moves(0, 1)", 1).due("now(1)", 4);
        Edge bad = Edge.of(10, "MOVED: how many LINES are RIGHT then. BAD").reads(SIX).refuses(BAD, Edge.beyond("moves(#, 0)", 6))
                .refuses(BAD, Edge.beyond("moves(5, #)", 6)).refuses(BAD, "moves(-1, 6)", "moves(MIN, MAX)", "moves(MAX, MIN)");
        bad.does("takes(5)").refuses(BAD, "moves(0, 5)", "moves(5, 0)").does("moves(0, 4)");
        bad.anew().reads("n1;s ab;").refuses(BAD, "moves(0, 1)", "moves(1, 0)").does("takes(0)").refuses(BAD, "moves(0, 1)", "moves(1, 0)");
        bad.anew().refuses(BAD, "moves(0, 1)", "moves(1, 0)");
    }

    private static void alikeOnes() {
        String[] alike = {"(0, 0)", "(1, 1)", "(2, 2)", "(3, 3)", "(4, 4)", "(5, 5)", "(6, 6)", "(-1, -1)", "(MIN, MIN)", "(MAX, MAX)"};
        String[] swaps = new String[alike.length];
        String[] moves = new String[alike.length];
        for (int k = 0; k < alike.length; k++) {
            swaps[k] = "swaps" + alike[k];
            moves[k] = "moves" + alike[k];
        }
        Edge swapped = Edge.of(9, "BAD (alike ones, too).").reads(SIX).refuses(BAD, swaps);
        swapped.anew().reads("n1;s ab;").refuses(BAD, "swaps(0, 0)").anew().refuses(BAD, "swaps(0, 0)");
        Edge moved = Edge.of(10, "BAD (alike ones, too).").reads(SIX).refuses(BAD, moves);
        moved.anew().reads("n1;s ab;").refuses(BAD, "moves(0, 0)").anew().refuses(BAD, "moves(0, 0)");
        // Strips that look alike are two all the same: places alone are meant.
        swapped.anew().reads("n1;s ab;s ab;").due("swaps(0, 1)", 0).due("now(3)", 21).due("count(4)", 1);
        moved.anew().reads("n1;s ab;s ab;").due("moves(0, 1)", 0).due("now(3)", 21).due("count(4)", 1);
    }

    private static void turn() {
        Edge.of(11, "TURNED: 1 it is then, 0.").reads(SIX).due("turn(0)", 1).due("turn(0)", 0).due("turn(5)", 1).due("turn(0)", 1)
                .due("turn(5)", 0).due("strip(0, 1)", 1).due("now(3)", 123456);
        Edge around = Edge.of(11, "A STRIP that is TURNED tells its LINES from the last to the first, and both SIGNS of each the other way round.");
        around.anew().reads("n1;s ab;s cd;").does("turn(0)").shows(0, "bacd").does("turn(0)").shows(0, "abcd");
        around.anew().reads("n2;s ab cd;s ef gh;").does("turn(1)").shows(0, "abhg").shows(1, "cdfe").does("turn(1)").shows(0, "abef")
                .shows(1, "cdgh");
        around.anew().reads("n3;s ab cd ef;s .g h. ..;").does("turn(0)", "turn(1)").shows(0, "fe..").shows(1, "dc.h").shows(2, "bag.");
        Edge.of(11, "BAD; STATE: it does not lie there.").reads(SIX).refuses(BAD, Edge.beyond("turn(#)", 6)).does("takes(0)", "takes(5)")
                .refuses(STATE, "turn(0)", "turn(5)").refuses(BAD, Edge.beyond("turn(#)", 6)).does("turn(4)", "lays(5)").due("turn(5)", 1)
                .anew().refuses(BAD, Edge.beyond("turn(#)", 0));
        Edge.of(11, "STATE: it does not lie there.").reads("n1;s ab;").does("turn(0)", "takes(0)").refuses(STATE, "turn(0)")
                .due("strip(0, 1)", 1).refuses(BAD, "turn(1)", "turn(-1)");
    }

    private static void takes() {
        Edge.of(12, "TAKEN: how many lie there then.").reads(SIX).due("takes(3)", 5).due("takes(0)", 4).due("takes(5)", 3).due("takes(1)", 2)
                .due("takes(4)", 1).due("takes(2)", 0).due("now(0)", 0).due("now(3)", 0);
        Edge nearer = Edge.of(12, "TAKEN: one from THE DESK (those behind it come nearer).").reads(SIX);
        nearer.twin().does("takes(0)").due("now(3)", 23456).twin().does("takes(5)").due("now(3)", 2345);
        nearer.twin().does("takes(2)").due("now(3)", 12456).due("strip(3, 0)", 2).due("strip(5, 0)", 4);
        nearer.twin().does("takes(5)").due("now(3)", 12345);
        Edge.of(12, "BAD; STATE: it does not lie there.").reads(SIX).refuses(BAD, Edge.beyond("takes(#)", 6)).does("takes(2)")
                .refuses(STATE, "takes(2)").does("takes(0)", "takes(5)").refuses(STATE, "takes(0)", "takes(2)", "takes(5)")
                .refuses(BAD, Edge.beyond("takes(#)", 6)).anew().refuses(BAD, Edge.beyond("takes(#)", 0));
        Edge.of(12, "STATE: it does not lie there.").reads("n1;s ab;").does("takes(0)").refuses(STATE, "takes(0)")
                .refuses(BAD, "takes(1)", "takes(-1)").does("lays(0)").due("takes(0)", 0);
    }

    private static void lays() {
        Edge.of(13, "LAID: how many lie there then.").reads(SIX).does("takes(0)", "takes(1)", "takes(2)", "takes(3)", "takes(4)", "takes(5)")
                .due("lays(3)", 1).due("now(3)", 4).due("lays(0)", 2).due("lays(5)", 3).due("lays(1)", 4).due("lays(4)", 5).due("lays(2)", 6)
                .due("now(3)", 416253);
        Edge.of(13, "LAID: one that was TAKEN (as it was TURNED), at the right end.").reads("n1;s ab;s cd;s ef;").does("turn(0)", "takes(0)")
                .due("lays(0)", 3).due("now(3)", 231).due("strip(0, 1)", 1).shows(0, "cdefba").does("turn(0)", "takes(0)", "lays(0)")
                .due("strip(0, 1)", 0).does("takes(0)").due("lays(0)", 3).due("now(3)", 231);
        Edge.of(13, "BAD; STATE: it lies there.").reads(SIX).refuses(BAD, Edge.beyond("lays(#)", 6))
                .refuses(STATE, "lays(0)", "lays(1)", "lays(2)", "lays(3)", "lays(4)", "lays(5)").does("takes(5)")
                .refuses(STATE, "lays(0)", "lays(4)").refuses(BAD, Edge.beyond("lays(#)", 6)).does("lays(5)").refuses(STATE, "lays(5)")
                .anew().refuses(BAD, Edge.beyond("lays(#)", 0));
    }

    private static void undo() {
        Edge none = Edge.of(14, "UNDONE: how many more may be. STATE: none.").reads(SIX).refuses(STATE, "undo()").does("swaps(0, 1)")
                .due("undo()", 0).refuses(STATE, "undo()").due("now(3)", 123456);
        none.anew().refuses(STATE, "undo()");
        Edge.of(14, "UNDONE: the latest SWAPPED, MOVED, TURNED, TAKEN, LAID").reads(SIX)
                .does("swaps(0, 5)", "moves(1, 3)", "turn(2)", "takes(3)", "lays(3)").due("now(3)", 632514).due("undo()", 4)
                .due("now(3)", 63251).due("strip(3, 0)", NONE).due("undo()", 3).due("now(3)", 634251).due("strip(2, 1)", 1).due("undo()", 2)
                .due("strip(2, 1)", 0).due("now(3)", 634251).due("undo()", 1).due("now(3)", 623451).due("undo()", 0).due("now(3)", 123456)
                .due("undo()", STATE);
        Edge.of(14, "all is as ahead of it.").reads("n1;s ab;s cd;s ef;").does("turn(1)", "takes(1)", "undo()").due("now(3)", 123)
                .due("strip(1, 1)", 1).due("strip(1, 0)", 1).does("takes(0)", "takes(1)", "takes(2)").due("undo()", 3).due("now(3)", 3)
                .due("undo()", 2).due("now(3)", 23).due("undo()", 1).due("now(3)", 123);
        // What was refused, undone, asked, seen, typed or kept is nothing that may be undone.
        Edge.of(14, "UNDONE: the latest").reads(SIX).due("swaps(0, 0)", BAD).due("moves(0, 6)", BAD).due("turn(6)", BAD).due("takes(-1)", BAD)
                .due("lays(0)", STATE).due("orders(0)", 720).does("sees(0, 1)", "keep(0)", "back(0)", "type(32)", "clear()", "forget()")
                .due("count(4)", 0).refuses(STATE, "undo()").does("turn(0)", "turn(1)", "undo()").due("count(4)", 1).due("undo()", 0)
                .due("undo()", STATE);
        Edge.of(14, "UNDONE: the latest").reads("n1;s ab;s cd;").does("takes(0)").due("takes(0)", STATE).due("turn(0)", STATE).due("undo()", 0)
                .due("undo()", STATE).does("sees(0, 1)", "type(32)", "mark(0, 0)", "turn(0)", "undo()").dues("count(#)", 1, 2, 0, 1, 0, 1)
                .due("trace()", 1);
    }

    private static void tenAndEleven() {
        Edge ten = Edge.of(14, "(10 are known, older ones are lost)").reads(SIX);
        for (int k = 1; k <= 10; k++) {
            ten.does("moves(0, 5)").due("count(4)", k);
        }
        Edge allTen = ten.twin().due("now(3)", 561234);
        Edge eleven = ten.twin().does("moves(0, 5)").due("count(4)", 10).due("now(3)", 612345);
        Edge sixteen = eleven.twin().does("turn(0)", "takes(1)", "lays(1)", "swaps(0, 1)", "moves(0, 5)").due("count(4)", 10);
        for (int k = 9; k >= 0; k--) {
            allTen.due("undo()", k).due("count(4)", k);
            eleven.due("undo()", k);
            sixteen.due("undo()", k);
        }
        allTen.due("now(3)", 123456).refuses(STATE, "undo()");
        eleven.due("now(3)", 234561).refuses(STATE, "undo()").does("turn(0)").due("undo()", 0).due("undo()", STATE);
        sixteen.due("now(3)", 123456).due("strip(0, 1)", 0).refuses(STATE, "undo()");
        ten.twin().due("undo()", 9).does("turn(0)").due("count(4)", 10).due("undo()", 9).due("undo()", 8).does("turn(0)")
                .due("count(4)", 9).does("turn(0)", "turn(0)").due("count(4)", 10);
        losesTheOldest(ten);
    }

    /** Whichever of the five it is that comes as the eleventh, and whichever it is that is lost. */
    private static void losesTheOldest(Edge ten) {
        String[] first = {"swaps(0, 1)", "moves(0, 2)", "turn(1)", "takes(1)"};
        int[] orders = {213456, 231456, 123456, 13456};
        for (int k = 0; k < first.length; k++) {
            Edge lost = turns(ten.anew().reads(SIX).does(first[k]), 10).due("count(4)", 10);
            undoTen(lost).due("now(3)", orders[k]).due("strip(1, 1)", first[k].startsWith("turn") ? 1 : 0).due("strip(0, 1)", 0);
            Edge eleventh = turns(ten.anew().reads(SIX), 10).does(first[k]).due("count(4)", 10).due("now(3)", orders[k]);
            undoTen(eleventh).due("now(3)", 123456).due("strip(1, 1)", 0).due("strip(0, 1)", 1);
        }
        Edge laidFirst = turns(ten.anew().reads(SIX).does("takes(1)", "lays(1)"), 10).due("count(4)", 10);
        undoTen(laidFirst).due("now(3)", 134562);
        Edge laidLast = turns(ten.anew().reads(SIX).does("takes(1)"), 9).does("lays(1)").due("count(4)", 10).due("now(3)", 134562);
        undoTen(laidLast).due("now(3)", 13456);
    }

    private static Edge turns(Edge edge, int times) {
        for (int k = 0; k < times; k++) {
            edge.does("turn(0)");
        }
        return edge;
    }

    private static Edge undoTen(Edge edge) {
        for (int k = 9; k >= 0; k--) {
            edge.due("undo()", k);
        }
        return edge.refuses(STATE, "undo()");
    }

    private static void now() {
        Edge.of(15, "0 how many lie on THE DESK").reads(SIX).due("now(0)", 6).does("takes(0)").due("now(0)", 5)
                .does("takes(1)", "takes(2)", "takes(3)", "takes(4)", "takes(5)").due("now(0)", 0);
        Edge bits = Edge.of(15, "1 LINES that are RIGHT (bits)");
        bits.anew().reads("n3;s ab ab ab;").due("now(1)", 0).anew().reads("n3;s ab ab ab;w ab;").due("now(1)", 7);
        bits.anew().reads("n3;s ab ab cd;w cd;").due("now(1)", 4).anew().reads("n3;s cd ab ab;w cd;").due("now(1)", 1);
        bits.anew().reads("n1;s ab;w ab;").due("now(1)", 1).anew().reads("s ab ab;w ab;").due("now(1)", 3);
        Edge none = Edge.of(15, "a LINE, if all its RUNS are (none: it is)");
        for (int n = 1; n <= 3; n++) {
            none.anew().reads("n" + n + ";").due("now(1)", (1 << n) - 1);
            none.anew().reads("n" + n + ";s" + " ..".repeat(n) + ";").due("now(1)", (1 << n) - 1);
            none.anew().reads("n" + n + ";s" + " ab".repeat(n) + ";").due("now(1)", 0).does("takes(0)").due("now(1)", (1 << n) - 1);
        }
        none.anew().reads("n1;s a.;s b.;w a;").due("now(1)", 0).anew().reads("n1;s a.;s b.;w b;").due("now(1)", 0);
        Edge runs = Edge.of(15, "2 RUNS of all LINES that are RIGHT");
        runs.anew().reads("n3;" + "s a. a. a.;".repeat(6) + "w a;").due("now(2)", 18);
        runs.anew().reads("n3;" + "s a. b. b.;".repeat(6) + "w a;").due("now(2)", 6);
        runs.anew().reads("n1;s a.;s b.;w b;").due("now(1)", 0).due("now(2)", 1).does("takes(1)").due("now(2)", 0).does("takes(0)").due("now(2)", 0);
        Edge order = Edge.of(15, "3 the ORDER as it is").reads(SIX).due("now(3)", 123456).does("swaps(0, 5)", "swaps(1, 4)", "swaps(2, 3)")
                .due("now(3)", 654321).does("takes(0)").due("now(3)", 65432).does("takes(1)", "takes(2)", "takes(3)", "takes(4)").due("now(3)", 6)
                .does("takes(5)").due("now(3)", 0).does("lays(0)").due("now(3)", 1);
        order.anew().due("now(3)", 0);
        Edge.of(15, "4 ALIEN (bits), 5 MOVES (NONE). BAD.").reads(SIX).asks("now(0)", "now(5)").refuses(BAD, Edge.beyond("now(#)", 6))
                .anew().asks("now(0)", "now(5)").refuses(BAD, Edge.beyond("now(#)", 6));
    }

    private static void line() {
        Edge of = Edge.of(16, "Of a LINE: 0 RUNS, 1 how many of them are RIGHT, 2 letters.").reads("n3;" + "s a. bb ..;".repeat(6) + "w a;")
                .dues("line(0, #)", 6, 6, 6).dues("line(1, #)", 1, 0, 12).dues("line(2, #)", 0, 0, 0);
        of.anew().reads("n1;s ab;").dues("line(0, #)", 1, 0, 2).does("takes(0)").dues("line(0, #)", 0, 0, 0);
        Edge bad = Edge.of(16, "2 letters. BAD.").reads("n3;s ab cd ef;").asks("line(0, 0)", "line(2, 2)")
                .refuses(BAD, Edge.beyond("line(#, 0)", 3)).refuses(BAD, Edge.beyond("line(0, #)", 3)).refuses(BAD, Edge.beyond("line(2, #)", 3))
                .refuses(BAD, "line(-1, -1)", "line(3, 3)", "line(MIN, MIN)", "line(MAX, MAX)");
        bad.anew().reads("n1;s ab;").asks("line(0, 2)").refuses(BAD, Edge.beyond("line(#, 2)", 1));
        bad.anew().asks("line(1, 2)").refuses(BAD, Edge.beyond("line(#, 2)", 2)).refuses(BAD, Edge.beyond("line(1, #)", 3));
    }

    private static void runs() {
        Edge up = Edge.of(16, "A RUN of it: letters side by side, as many as there are up to a BLANK or the end.");
        up.anew().reads("n1;s ab;s c.;s .d;s ef;w abc;w def;").dues("line(0, #)", 2, 2, 6).due("now(1)", 1);
        up.anew().reads("n1;s ab;s cd;s ef;s gh;s ij;s kl;w abcdef;w ghijkl;").dues("line(0, #)", 1, 0, 12).due("now(1)", 0);
        up.anew().reads("n1;s aa;s aa;s aa;s a.;w aaaaaa;w a;").dues("line(0, #)", 1, 0, 7);
        up.anew().reads("n1;s .a;s b.;w ab;").dues("line(0, #)", 1, 1, 2).anew().reads("n1;s a.;s .b;w ab;").dues("line(0, #)", 2, 0, 2);
        // A line's last run does not go on in the next line.
        up.anew().reads("n2;s .a b.;w ab;").dues("line(0, #)", 1, 0, 1).dues("line(1, #)", 1, 0, 1);
        Edge is = Edge.of(16, "A RUN is RIGHT, if it is a WORD");
        is.anew().reads("n1;s ab;w abc;").due("line(0, 1)", 0).anew().reads("n1;s ab;w a;").due("line(0, 1)", 0);
        is.anew().reads("n1;s ab;w b;w ba;").due("line(0, 1)", 0).anew().reads("n1;s ab;w abc;w ab;").due("line(0, 1)", 1);
        is.anew().reads("n1;s ab;s cd;w ab;w cd;").due("line(0, 1)", 0).anew().reads("n1;s a.;s z.;w z;w a;").due("line(0, 1)", 2);
        is.anew().reads("n1;s ab;s cd;s ef;w abcdef;w abcdeg;").due("line(0, 1)", 1).anew().reads("n1;s ab;").due("line(0, 1)", 0);
        is.anew().reads("n1;s zz;s zz;s zz;w a;w b;w c;w d;w e;w f;w g;w zzzzzz;").due("line(0, 1)", 1);
    }

    private static void reads() {
        Edge all = Edge.of(17, "The SIGN i (0 .., twice PLACES, less 1) that a LINE reads.").reads(OrderEdges.CHAIN).shows(0, "abc.def.ghi.")
                .shows(1, "...xy..zw...").does("moves(5, 0)", "turn(0)").shows(0, "i...c.def.gh").shows(1, "..ba.xy..zw.");
        all.anew().reads("n3;s az .. z.;").shows(0, "az").shows(1, "..").shows(2, "z.");
        Edge bad = Edge.of(17, "that a LINE reads. BAD.").reads(OrderEdges.CHAIN).asks("reads(0, 0)", "reads(1, 11)")
                .refuses(BAD, Edge.beyond("reads(#, 0)", 2)).refuses(BAD, Edge.beyond("reads(0, #)", 12))
                .refuses(BAD, "reads(-1, -1)", "reads(2, 12)", "reads(MIN, MIN)", "reads(MAX, MAX)");
        bad.does("takes(2)").asks("reads(1, 9)").refuses(BAD, Edge.beyond("reads(1, #)", 10));
        bad.does("takes(0)", "takes(1)", "takes(3)", "takes(4)").due("reads(0, 1)", '.').refuses(BAD, Edge.beyond("reads(0, #)", 2))
                .does("takes(5)").refuses(BAD, Edge.beyond("reads(0, #)", 0));
        bad.anew().reads("n1;s ab;").refuses(BAD, Edge.beyond("reads(#, 0)", 1)).anew().reads("n3;s ab cd ef;").due("reads(2, 1)", 'f')
                .refuses(BAD, Edge.beyond("reads(#, 0)", 3)).anew().refuses(BAD, Edge.beyond("reads(0, #)", 0));
    }
}
