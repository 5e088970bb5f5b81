/** Promises 5 to 8: what is told of strips, signs, places and words. */
final class StripEdges {
    private static final int BAD = Edge.BAD, NONE = Edge.NONE;
    private static final String SIX = "n1;s a.;s b.;s c.;s d.;s e.;s f.;w a;w b;w c;w d;w e;w f;";

    private StripEdges() {
    }

    static void run() {
        strip();
        next();
        sign();
        place();
        word();
    }

    private static void strip() {
        Edge place = Edge.of(5, "0 its PLACE (NONE: TAKEN)").reads(SIX).due("strip(0, 0)", 0).due("strip(5, 0)", 5)
                .does("swaps(0, 5)").due("strip(0, 0)", 5).due("strip(5, 0)", 0).does("takes(5)").due("strip(5, 0)", NONE)
                .due("strip(1, 0)", 0).due("strip(0, 0)", 4).does("lays(5)").due("strip(5, 0)", 5).does("undo()").due("strip(5, 0)", NONE);
        place.does("takes(0)", "takes(1)", "takes(2)", "takes(3)", "takes(4)");
        for (int s = 0; s < 6; s++) {
            place.due("strip(" + s + ", 0)", NONE);
        }
        Edge.of(5, "1 whether it is TURNED (1, 0)").reads(SIX).due("strip(5, 1)", 0).does("turn(5)").due("strip(5, 1)", 1)
                .due("strip(4, 1)", 0).due("strip(0, 1)", 0).does("takes(5)").due("strip(5, 1)", 1).does("lays(5)").due("strip(5, 1)", 1)
                .does("turn(5)").due("strip(5, 1)", 0).does("undo()").due("strip(5, 1)", 1);
        Edge.of(5, "2 letters on it (bits of 0 .. 25)").reads("n3;s .. .. ..;s a. .. ..;s .. .. .z;s aa aa aa;s ab cx yz;s .. nm ..;")
                .due("strip(0, 2)", 0).due("strip(1, 2)", 1).due("strip(2, 2)", 1 << 25).due("strip(3, 2)", 1)
                .due("strip(4, 2)", 7 | 7 << 23).due("strip(5, 2)", 3 << 12).does("turn(4)").due("strip(4, 2)", 7 | 7 << 23)
                .does("takes(4)").due("strip(4, 2)", 7 | 7 << 23);
        // The signs of a third line that was told by an older text are on no strip any more.
        Edge.of(5, "2 letters on it").reads("n3;s ab cd ef;").due("strip(0, 2)", 63).reads("n1;s ..;").due("strip(0, 2)", 0)
                .reads("s .. z.;").due("strip(0, 2)", 1 << 25);
        Edge bad = Edge.of(5, "2 letters on it (bits of 0 .. 25), 3 NEXT (NONE). BAD.").reads(SIX);
        for (int what = 0; what < 4; what++) {
            bad.refuses(BAD, Edge.beyond("strip(#, " + what + ")", 6));
        }
        bad.refuses(BAD, Edge.beyond("strip(0, #)", 4)).refuses(BAD, Edge.beyond("strip(5, #)", 4))
                .refuses(BAD, "strip(-1, -1)", "strip(6, 4)", "strip(MIN, MIN)", "strip(MAX, MAX)");
        bad.anew().reads("w a;").refuses(BAD, "strip(0, 0)", "strip(0, 1)", "strip(0, 2)", "strip(0, 3)");
        bad.anew().reads("n1;s ab;").asks("strip(0, 0)", "strip(0, 3)").refuses(BAD, Edge.beyond("strip(#, 0)", 1));
    }

    private static void next() {
        Edge sure = Edge.of(5, "NEXT of a STRIP: that which is at its right hand in all ORDERS by which THE PAGE is RIGHT")
                .reads(OrderEdges.CHAIN);
        for (int s = 0; s < 5; s++) {
            sure.due("strip(" + s + ", 3)", s + 1);
        }
        sure.due("strip(5, 3)", NONE).does("swaps(0, 5)", "moves(1, 3)").due("strip(0, 3)", 1).due("strip(4, 3)", 5);
        Edge no = Edge.of(5, "there is no such ORDER, it is the last in one, or they are unlike ones, or it does not lie there");
        no.anew().reads("n1;s ab;s cd;").due("strip(0, 3)", NONE).due("strip(1, 3)", NONE);
        Edge last = Edge.of(5, "it is the last in one").reads("n1;s ab;s cd;s ..;w abcd;").due("strip(0, 3)", 1).due("strip(1, 3)", NONE)
                .due("strip(2, 3)", NONE);
        // The order in which it is the last comes first here.
        last.anew().reads("n1;s ..;s ab;s cd;w abcd;").due("strip(0, 3)", NONE).due("strip(1, 3)", 2).due("strip(2, 3)", NONE);
        last.anew().reads("n1;s ..;").due("strip(0, 3)", NONE);
        Edge.of(5, "they are unlike ones").reads("n1;s ab;s ..;s ..;s cd;w ab;w cd;").due("strip(0, 3)", NONE).due("strip(1, 3)", NONE)
                .anew().reads("n1;s a.;s bc;s bc;s d.;s d.;w a;w bcd;").due("strip(1, 3)", NONE).due("strip(2, 3)", NONE);
        Edge.of(5, "it does not lie there").reads("n1;s ab;s cd;s ef;w abcd;w abcdef;").due("strip(1, 3)", 2).does("takes(2)")
                .due("strip(0, 3)", 1).due("strip(1, 3)", NONE).due("strip(2, 3)", NONE).does("takes(1)", "takes(0)")
                .due("strip(0, 3)", NONE).due("strip(1, 3)", NONE).due("strip(2, 3)", NONE);
    }

    private static void sign() {
        Edge told = Edge.of(6, "SIGN i (0, 1) of a LINE of a STRIP as it was told (not TURNED).").reads("n3;s ab c. .z;s .. xy zz;");
        for (int k = 0; k < 2; k++) {
            told.dues("sign(0, 0, #)", 'a', 'b').dues("sign(0, 1, #)", 'c', '.').dues("sign(0, 2, #)", '.', 'z')
                    .dues("sign(1, 0, #)", '.', '.').dues("sign(1, 1, #)", 'x', 'y').dues("sign(1, 2, #)", 'z', 'z');
            told.does("turn(0)", "turn(1)", "takes(0)");
            if (k == 0) {
                told.does("lays(0)");
            }
        }
        Edge bad = Edge.of(6, "as it was told (not TURNED). BAD.").reads("n3;s ab cd ef;s ab cd ef;");
        bad.asks("sign(0, 0, 0)", "sign(1, 2, 1)").refuses(BAD, Edge.beyond("sign(#, 0, 0)", 2))
                .refuses(BAD, Edge.beyond("sign(1, #, 1)", 3)).refuses(BAD, Edge.beyond("sign(1, 2, #)", 2))
                .refuses(BAD, "sign(-1, -1, -1)", "sign(MIN, MIN, MIN)", "sign(MAX, MAX, MAX)", "sign(0, 1, -1)", "sign(1, -1, 2)");
        bad.anew().reads("n1;s ab;").asks("sign(0, 0, 1)").refuses(BAD, "sign(0, 1, 0)", "sign(1, 0, 0)", "sign(0, -1, 0)");
        bad.anew().reads("s ab cd;").asks("sign(0, 1, 1)").refuses(BAD, "sign(0, 2, 0)");
        bad.anew().reads("n1;" + "s ab;".repeat(6)).asks("sign(5, 0, 1)").refuses(BAD, "sign(6, 0, 0)");
        bad.anew().refuses(BAD, "sign(0, 0, 0)");
    }

    private static void place() {
        Edge six = Edge.of(7, "The STRIP at a PLACE. BAD.").reads(SIX).dues("place(#)", 0, 1, 2, 3, 4, 5)
                .refuses(BAD, Edge.beyond("place(#)", 6)).does("swaps(0, 5)").due("place(0)", 5).due("place(5)", 0);
        Edge.of(7, "PLACES 0 .. are as many as lie there.").reads(SIX).does("takes(2)").dues("place(#)", 0, 1, 3, 4, 5, BAD)
                .does("takes(0)", "takes(5)", "takes(4)", "takes(3)").dues("place(#)", 1, BAD).does("takes(1)").dues("place(#)", BAD, BAD)
                .refuses(BAD, Edge.beyond("place(#)", 0)).does("lays(4)").dues("place(#)", 4, BAD);
        six.anew().refuses(BAD, Edge.beyond("place(#)", 0));
    }

    private static void word() {
        Edge word = Edge.of(8, "SIGN i of a WORD; NONE: it has no more.").reads("w a;w zyxwvu;w mno;")
                .dues("word(0, #)", 'a', NONE, NONE, NONE, NONE, NONE).dues("word(1, #)", 'z', 'y', 'x', 'w', 'v', 'u')
                .dues("word(2, #)", 'm', 'n', 'o', NONE, NONE, NONE);
        // A shorter word where a longer one was told by an older text.
        word.reads("w ab;w b;").dues("word(0, #)", 'a', 'b', NONE, NONE, NONE, NONE).dues("word(1, #)", 'b', NONE, NONE);
        Edge bad = Edge.of(8, "BAD: WORD, i (0 .. 5).").reads("w a;".repeat(7) + "w abcdef;").asks("word(0, 5)", "word(7, 5)")
                .refuses(BAD, Edge.beyond("word(#, 0)", 8)).refuses(BAD, Edge.beyond("word(0, #)", 6))
                .refuses(BAD, Edge.beyond("word(7, #)", 6)).refuses(BAD, "word(-1, -1)", "word(8, 6)", "word(MIN, MIN)", "word(MAX, MAX)");
        bad.anew().reads("w a;").asks("word(0, 0)").refuses(BAD, Edge.beyond("word(#, 0)", 1)).refuses(BAD, Edge.beyond("word(0, #)", 6));
        bad.anew().reads("n1;s ab;").refuses(BAD, Edge.beyond("word(#, 0)", 0));
    }
}
