/** Promises 22 to 25: what was seen on an unknown strip, which it was, what to look for. */
final class SeenEdges {
    private static final int BAD = Edge.BAD, FULL = Edge.FULL, NONE = Edge.NONE;
    private static final String FOUR = "n1;s ab;s bc;s cz;s ..;";
    private static final String[] SIX_SEEN = {"sees(0, 1)", "sees(25, 0)", "sees(0, 1)", "sees(24, 0)", "sees(23, 0)", "sees(22, 0)"};

    private SeenEdges() {
    }

    static void run() {
        sees();
        forget();
        which();
        look();
        lookNone();
    }

    private static void sees() {
        Edge much = Edge.of(22, "SEEN: how much there is.").reads(FOUR).due("sees(0, 1)", 1).due("sees(25, 0)", 2).due("count(3)", 2);
        much.anew().due("sees(0, 0)", 1).due("sees(25, 1)", 2);
        Edge six = Edge.of(22, "SEEN (6 at most)").reads(FOUR);
        for (int k = 0; k < SIX_SEEN.length; k++) {
            six.due("count(3)", k).due(SIX_SEEN[k], k + 1);
        }
        six.due("count(3)", 6).refuses(FULL, "sees(0, 0)", "sees(0, 1)", "sees(25, 0)", "sees(25, 1)").due("sees(1, 0)", FULL)
                .due("which()", 1).due("count(3)", 6).does("forget()").due("sees(1, 0)", 1).due("which()", 12);
        Edge bad = Edge.of(22, "SEEN: how much there is. BAD; FULL.").reads(FOUR).refuses(BAD, Edge.beyond("sees(#, 0)", 26))
                .refuses(BAD, Edge.beyond("sees(#, 1)", 26)).refuses(BAD, Edge.beyond("sees(0, #)", 2)).refuses(BAD, Edge.beyond("sees(25, #)", 2))
                .refuses(BAD, "sees(-1, -1)", "sees(26, 2)", "sees(MIN, MIN)", "sees(MAX, MAX)", "sees(97, 1)");
        bad.does(SIX_SEEN).refuses(BAD, Edge.beyond("sees(#, 0)", 26)).refuses(BAD, Edge.beyond("sees(0, #)", 2)).refuses(FULL, "sees(0, 0)");
        bad.anew().refuses(BAD, Edge.beyond("sees(#, 0)", 26)).refuses(BAD, Edge.beyond("sees(0, #)", 2));
    }

    private static void forget() {
        Edge.of(23, "Nothing was SEEN: how much was.").reads(FOUR).due("forget()", 0).does("sees(0, 1)").due("which()", 1).due("forget()", 1)
                .due("forget()", 0).due("which()", 15).due("count(3)", 0).does(SIX_SEEN).due("forget()", 6).due("forget()", 0)
                .due("which()", 15).does("sees(2, 0)").due("which()", 9).due("forget()", 1).due("which()", 15);
        Edge.of(23, "Nothing was SEEN").due("forget()", 0).does("sees(0, 1)").due("forget()", 1).due("count(3)", 0);
    }

    private static void which() {
        Edge so = Edge.of(24, "WHICH: STRIPS (bits) by which all that was SEEN is so.").reads(FOUR).due("which()", 15);
        so.twin().does("sees(1, 1)").due("which()", 3).does("sees(0, 0)").due("which()", 2).does("sees(2, 0)").due("which()", 0);
        so.twin().does("sees(25, 1)").due("which()", 4).twin().does("sees(25, 0)").due("which()", 0);
        so.twin().does("sees(0, 0)", "sees(1, 0)", "sees(2, 0)").due("which()", 8);
        so.twin().does("sees(3, 1)").due("which()", 0).twin().does("sees(24, 0)").due("which()", 0).anew().reads(FOUR).does("sees(24, 0)")
                .due("which()", 15);
        so.anew().reads("n1;" + "s ..;".repeat(6)).due("which()", 63).does("sees(0, 0)").due("which()", 63).does("sees(0, 1)").due("which()", 0);
        so.anew().due("which()", 0).does("sees(0, 0)").due("which()", 0).reads("w a;").due("which()", 0);
        Edge.of(24, "an unknown STRIP (TAKEN or not) has a letter somewhere on it (1), or has not (0).").reads(FOUR)
                .does("takes(0)", "takes(1)", "takes(2)", "takes(3)").due("which()", 15).does("sees(1, 1)").due("which()", 3).does("lays(1)")
                .due("which()", 3);
        Edge somewhere = Edge.of(24, "has a letter somewhere on it").reads("n3;s a. .. ..;s .a .. ..;s .. a. ..;s .. .a ..;s .. .. a.;s .. .. .a;");
        somewhere.does("sees(0, 1)").due("which()", 63).does("turn(0)", "turn(5)").due("which()", 63).does("sees(0, 0)").due("which()", 0);
    }

    private static void look() {
        Edge part = Edge.of(25, "LOOK: the letter (0 .. 25) by which, there or not, the greater part of these is least");
        part.anew().reads("n1;s a.;s ..;").due("look()", 0).anew().reads("n1;s z.;s ..;").due("look()", 25);
        part.anew().reads("n1;s a.;s b.;s b.;s b.;s ..;s ..;").due("look()", 1);
        part.anew().reads("n1;s ab;s a.;s a.;s cb;").due("look()", 1).anew().reads("n1;s az;s az;s az;s a.;s a.;s ..;").due("look()", 25);
        part.anew().reads(FOUR).due("look()", 1).does("sees(1, 1)").due("look()", 0).does("forget()", "sees(1, 0)").due("look()", 2);
        part.anew().reads(FOUR).does("takes(0)", "takes(1)", "takes(2)", "takes(3)").due("look()", 1);
        Edge several = Edge.of(25, "of several the lowest");
        several.anew().reads("n1;s yz;s ..;").due("look()", 24).anew().reads("n1;s zy;s ..;").due("look()", 24);
        // There in one of three or in two of three: the greater part is as great.
        several.anew().reads("n1;s ab;s b.;s ..;").due("look()", 0).anew().reads("n1;s ab;s a.;s ..;").due("look()", 0);
    }

    private static void lookNone() {
        Edge fewer = Edge.of(25, "NONE (fewer than 2, none parts them)");
        fewer.anew().due("look()", NONE).does("sees(0, 1)").due("look()", NONE).anew().reads("n1;s ab;").due("look()", NONE);
        fewer.anew().reads("n1;s ab;s cd;").due("look()", 0).does("sees(0, 1)").due("which()", 1).due("look()", NONE).does("sees(0, 0)")
                .due("which()", 0).due("look()", NONE);
        Edge parts = Edge.of(25, "none parts them");
        parts.anew().reads("n1;s ab;s ba;").due("look()", NONE).anew().reads("n1;s ab;s ba;s ..;").due("look()", 0).does("sees(1, 1)")
                .due("which()", 3).due("look()", NONE);
        parts.anew().reads("n1;" + "s ..;".repeat(6)).due("look()", NONE).anew().reads("n1;" + "s az;".repeat(6)).due("look()", NONE);
    }
}
