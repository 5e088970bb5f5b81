/** Promises 15 and 18 to 21: orders by which the page is right, either way, best, odds, aliens and moves. */
final class OrderEdges {
    /** Six strips of two lines of which each follows the one ahead of it: abc.def.ghi. over ...xy..zw... alone is right. */
    static final String CHAIN = "s ab ..;s c. .x;s de y.;s f. .z;s gh w.;s i. ..;w abc;w def;w ghi;w xy;w zw;";
    private static final String CHAIN_WORDS = "w abc;w def;w ghi;w xy;w zw;";
    private static final String LAST_FIRST = "s i. ..;s gh w.;s f. .z;s de y.;s c. .x;s ab ..;" + CHAIN_WORDS;
    private static final String UPSIDE_DOWN = "s .. ba;s x. .c;s .y ed;s z. .f;s .w hg;s .. .i;" + CHAIN_WORDS;
    private static final String BLANK = "n3;" + "s .. .. ..;".repeat(6);
    private static final String[] TURN_BACK = {"swaps(0, 5)", "swaps(1, 4)", "swaps(2, 3)"};
    private static final String[] TAKE_ALL = {"takes(0)", "takes(1)", "takes(2)", "takes(3)", "takes(4)", "takes(5)"};
    private static final int BAD = Edge.BAD, NONE = Edge.NONE;

    private OrderEdges() {
    }

    static void run() {
        nothingChanges();
        orders();
        either();
        firstWay();
        best();
        odds();
        alien();
        moves();
    }

    private static void nothingChanges() {
        String[] asked = {"orders(0)", "orders(1)", "either(0)", "either(1)", "either(2)", "best(0)", "best(1)", "odds(0)", "odds(1)", "now(4)",
            "now(5)", "strip(0, 3)", "which()", "look()"};
        Edge nothing = Edge.of(18, "(Nothing is changed;").reads("n2;s ab ..;s cd ..;s .. fe;w cdab;w ef;")
                .does("turn(2)", "swaps(0, 1)", "keep(0)", "takes(2)", "sees(0, 0)", "type(35)").asks(asked);
        nothing.anew().asks("orders(0)", "orders(1)", "either(0)", "either(1)", "either(2)", "best(0)", "best(1)", "odds(0)", "odds(1)",
                "now(4)", "now(5)", "which()", "look()");
        nothing.anew().reads(CHAIN).does(TURN_BACK).asks(asked);
    }

    private static void orders() {
        Edge many = Edge.of(18, "ORDERS by which THE PAGE is RIGHT: how many; the first (the least such number); NONE.");
        many.anew().reads(BLANK).dues("orders(#)", 720, 123456).does(TURN_BACK).dues("orders(#)", 720, 123456);
        many.anew().reads(CHAIN).dues("orders(#)", 1, 123456).does(TURN_BACK).dues("orders(#)", 1, 123456);
        many.anew().reads(LAST_FIRST).dues("orders(#)", 1, 654321);
        many.anew().reads("n1;s ab;").dues("orders(#)", 0, NONE).anew().reads("n1;s ab;w ab;").dues("orders(#)", 1, 1);
        many.anew().reads("n1;s .a;s ..;s ..;w a;").dues("orders(#)", 6, 123).does("swaps(0, 2)").dues("orders(#)", 6, 123);
        many.anew().reads("n1;s cd;s ..;s ab;w abcd;").dues("orders(#)", 2, 231);
        // One line that is not right is enough, whichever it is.
        many.anew().reads("n3;s ab ab xy;w ab;").dues("orders(#)", 0, NONE).anew().reads("n3;s xy ab ab;w ab;").dues("orders(#)", 0, NONE)
                .anew().reads("n3;s ab ab ab;w ab;").dues("orders(#)", 1, 1);
        Edge none = Edge.of(18, "none lies there: 0.").reads(CHAIN).does(TAKE_ALL).dues("orders(#)", 1, 0);
        none.anew().reads("n1;s ab;").does("takes(0)").dues("orders(#)", 1, 0).anew().dues("orders(#)", 1, 0);
        Edge desk = Edge.of(18, "STRIPS on THE DESK alone, TURNED as they are, if nothing else is told.").reads("n1;s ba;s cd;s ef;w abcd;w ef;")
                .dues("orders(#)", 0, NONE).does("takes(2)").dues("orders(#)", 0, NONE).does("turn(0)").dues("orders(#)", 1, 12)
                .does("lays(2)").dues("orders(#)", 0, NONE).does("takes(0)", "takes(1)").dues("orders(#)", 1, 3);
        desk.anew().reads("n1;s cd;s ab;s ab;w abcd;").does("takes(1)").dues("orders(#)", 1, 31);
        Edge bad = Edge.of(18, "how many (what = 0), the first (1; NONE). BAD.").reads(CHAIN).refuses(BAD, Edge.beyond("orders(#)", 2));
        bad.anew().refuses(BAD, Edge.beyond("orders(#)", 2));
    }

    private static void either() {
        Edge twos = Edge.of(19, "EITHER WAY: of all ORDERS and all ways to have STRIPS TURNED or not: how many twos of both");
        twos.anew().reads(BLANK).dues("either(#)", 720 * 64, 123456, 0).does(TURN_BACK).does("turn(0)", "turn(5)")
                .dues("either(#)", 720 * 64, 123456, 0).does("takes(0)").dues("either(#)", 120 * 32, 23456, 0);
        twos.anew().reads(CHAIN).dues("either(#)", 1, 123456, 0).does(TURN_BACK).dues("either(#)", 1, 123456, 0);
        twos.anew().reads(UPSIDE_DOWN).dues("orders(#)", 0, NONE).dues("either(#)", 1, 123456, 63);
        twos.anew().reads("n1;s ..;").dues("either(#)", 2, 1, 0).does("turn(0)").dues("either(#)", 2, 1, 0);
        twos.anew().reads("n1;s ba;w ab;").dues("either(#)", 1, 1, 1).does("turn(0)").dues("either(#)", 1, 1, 1);
        Edge none = Edge.of(19, "how many (what = 0), the first ORDER (1; NONE), who is TURNED (2; NONE).");
        none.anew().reads("n1;s ab;").dues("either(#)", 0, NONE, NONE).anew().reads("n1;s ab;w abc;").dues("either(#)", 0, NONE, NONE);
        Edge empty = Edge.of(19, "none lies there: 0.").reads(UPSIDE_DOWN).does("turn(0)").does(TAKE_ALL).dues("either(#)", 1, 0, 0);
        empty.does("lays(0)").dues("either(#)", 0, NONE, NONE).anew().dues("either(#)", 1, 0, 0);
        // Who was taken is nobody's way, turned or not; and what lies there is asked anew each time.
        Edge.of(19, "STRIPS on THE DESK alone").reads("n1;s ba;s dc;s ef;w abcd;w cd;w ef;").does("turn(2)", "takes(2)").dues("either(#)", 1, 12, 3)
                .does("takes(0)").dues("either(#)", 1, 2, 2).does("takes(1)", "lays(2)").dues("either(#)", 1, 3, 0).does("undo()", "undo()")
                .dues("either(#)", 1, 2, 2);
        // As many strips lie there as did ahead of it, but what they tell, or the words alone, are others.
        Edge.of(19, "(Read anew: as told").reads("n1;s ba;s dc;w abcd;").dues("either(#)", 1, 12, 3).reads("n1;s ab;s cd;w abcd;w cdab;")
                .dues("either(#)", 2, 12, 0).reads("n1;s ab;s cd;w dcab;").dues("either(#)", 1, 21, 2).types("n1;s ab;s cd;w #")
                .due("page()", -25).dues("either(#)", 1, 21, 2);
        Edge bad = Edge.of(19, "who is TURNED (2; NONE). BAD.").reads(CHAIN).refuses(BAD, Edge.beyond("either(#)", 3));
        bad.anew().refuses(BAD, Edge.beyond("either(#)", 3)).reads("n1;s ab;").refuses(BAD, Edge.beyond("either(#)", 3));
    }

    private static void firstWay() {
        Edge first = Edge.of(19, "the first ORDER; the first way for that (who is TURNED, bits, the least); NONE.");
        // A later order has the lesser way: the first order goes ahead.
        first.anew().reads("n1;s ba;s cd;w abcd;w cdba;").dues("either(#)", 2, 12, 1);
        // Of two ways the lesser number, not that whose first strip is not turned.
        first.anew().reads("n1;s ab;s cd;w bacd;w abdc;").dues("either(#)", 2, 12, 1);
        first.anew().reads("n1;s cd;s ab;w bacd;w abdc;").dues("either(#)", 2, 21, 1);
        first.anew().reads("n1;s ab;w ab;w ba;").dues("either(#)", 2, 1, 0);
        first.anew().reads("n1;s ..;s ba;w ab;").dues("either(#)", 4, 12, 2);
    }

    private static void best() {
        Edge most = Edge.of(20, "BEST: the ORDER by which most letters are in RIGHT RUNS, of several the first: how many; it.");
        most.anew().reads("n3;s ab ab ab;s cd cd cd;s ef ef ef;w abcdef;").dues("best(#)", 18, 123).does("swaps(0, 2)").dues("best(#)", 18, 123);
        most.anew().reads("n3;" + "s a. a. a.;".repeat(6) + "w a;").dues("best(#)", 18, 123456);
        most.anew().reads(LAST_FIRST).dues("best(#)", 13, 654321);
        most.anew().reads("n1;s cd;s ab;w abcd;").dues("best(#)", 4, 21).anew().reads("n1;s c.;s ab;w abc;w c;w ab;").dues("best(#)", 3, 12);
        // Letters are counted, not runs: a.b.cd has two that are right, and so has b.cda. with more letters.
        most.anew().reads("n1;s a.;s b.;s cd;w a;w b;w cda;").dues("best(#)", 4, 231);
        most.anew().reads("n1;s ab;s ..;w ab;").does("swaps(0, 1)").dues("best(#)", 2, 12);
        Edge few = Edge.of(20, "of several the first").reads(BLANK).dues("best(#)", 0, 123456).does(TURN_BACK).dues("best(#)", 0, 123456)
                .does("takes(0)").dues("best(#)", 0, 23456);
        few.anew().reads("n1;s ab;s cd;").does("swaps(0, 1)").dues("best(#)", 0, 12).does("takes(0)").dues("best(#)", 0, 2);
        Edge.of(20, "none lies there: 0.").reads(CHAIN).does(TAKE_ALL).dues("best(#)", 0, 0).anew().dues("best(#)", 0, 0);
        Edge.of(20, "TURNED as they are").reads("n1;s ba;s cd;w abcd;").dues("best(#)", 0, 12).does("turn(0)").dues("best(#)", 4, 12)
                .does("takes(1)").dues("best(#)", 0, 1);
        Edge bad = Edge.of(20, "how many letters (what = 0), the ORDER (1). BAD.").reads(CHAIN).refuses(BAD, Edge.beyond("best(#)", 2));
        bad.anew().refuses(BAD, Edge.beyond("best(#)", 2));
    }

    private static void odds() {
        Edge each = Edge.of(21, "ODDS: each ORDER is as likely: that THE PAGE is RIGHT: a fraction.");
        each.anew().reads(CHAIN).dues("odds(#)", 1, 720).does(TURN_BACK).dues("odds(#)", 1, 720);
        each.anew().reads(BLANK).dues("odds(#)", 1, 1).anew().reads("n1;s ab;w ab;").dues("odds(#)", 1, 1);
        each.anew().reads("n1;s ab;").dues("odds(#)", 0, 1).anew().reads("n1;" + "s ab;".repeat(6)).dues("odds(#)", 0, 1);
        Edge.of(21, "none lies there").reads(CHAIN).does(TAKE_ALL).dues("odds(#)", 1, 1).anew().dues("odds(#)", 1, 1);
        Edge least = Edge.of(21, "upper (what = 0), lower number (1), in least terms.");
        least.anew().reads("n1;s ab;s c.;s de;s f.;s gh;s i.;w abc;w def;w ghi;").due("orders(0)", 6).dues("odds(#)", 1, 120);
        least.anew().reads("n1;s ab;s cd;s ..;w abcd;").due("orders(0)", 2).dues("odds(#)", 1, 3);
        least.anew().reads("n1;s ab;s cd;s ..;w abcd;w ab;w cd;").due("orders(0)", 4).dues("odds(#)", 2, 3);
        least.anew().reads("n1;s ab;s cd;w abcd;").dues("odds(#)", 1, 2).does("takes(0)").dues("odds(#)", 0, 1);
        Edge bad = Edge.of(21, "lower number (1), in least terms. BAD.").reads(CHAIN).refuses(BAD, Edge.beyond("odds(#)", 2));
        bad.anew().refuses(BAD, Edge.beyond("odds(#)", 2)).reads("n1;s ab;").refuses(BAD, Edge.beyond("odds(#)", 2));
    }

    private static void alien() {
        Edge each = Edge.of(15, "ALIEN: STRIPS (bits) each of which, were it TAKEN, would leave some by which it is RIGHT.");
        each.anew().due("now(4)", 0).reads("n1;s ab;").due("now(4)", 1).does("takes(0)").due("now(4)", 0);
        each.anew().reads(BLANK).due("now(4)", 63).does(TURN_BACK).due("now(4)", 63).does("takes(5)").due("now(4)", 31);
        each.anew().reads(CHAIN).due("now(4)", 0);
        each.anew().reads("n1;s ab;s xy;w ab;").due("now(4)", 2).does("swaps(0, 1)").due("now(4)", 2).does("takes(0)").due("now(4)", 2);
        each.anew().reads("n1;s ab;s xy;s ..;w ab;").due("now(4)", 2).does("takes(2)").due("now(4)", 2);
        each.anew().reads("n1;s ab;s cd;s xy;w ba;w cd;").does("takes(2)").due("now(4)", 1).does("turn(0)").due("now(4)", 3);
        each.anew().reads("n1;s ..;s ..;s ..;s ..;s ..;s xy;").due("now(4)", 32).anew().reads("n1;s xy;s xy;").due("now(4)", 0);
        // Whoever may be taken need not be in a page that is wrong.
        each.anew().reads("n1;s a.;s b.;w a;w b;").due("now(1)", 1).due("now(4)", 3);
    }

    private static void moves() {
        Edge fewest = Edge.of(15, "MOVES: the fewest STRIPS to be MOVED so that THE PAGE is RIGHT; NONE.");
        fewest.anew().due("now(5)", 0).reads("n1;s ab;").due("now(5)", Edge.NONE).does("takes(0)").due("now(5)", 0);
        fewest.anew().reads(CHAIN).due("now(5)", 0).does(TURN_BACK).due("now(5)", 5).does("moves(0, 5)").due("now(5)", 4).does("moves(0, 4)")
                .due("now(5)", 3);
        fewest.anew().reads(LAST_FIRST).due("now(5)", 5);
        fewest.anew().reads(CHAIN).does("moves(0, 5)").due("now(5)", 1).does("moves(5, 0)").due("now(5)", 0).does("swaps(0, 5)").due("now(5)", 2)
                .does("swaps(1, 4)").due("now(5)", 4);
        fewest.anew().reads(BLANK).does(TURN_BACK).due("now(5)", 0);
        // The least of all orders that are right, though the first of them is far away.
        fewest.anew().reads("n1;s a.;s bc;s d.;w a;w bcd;").does("moves(0, 2)").due("orders(1)", 123).due("now(5)", 0);
        fewest.anew().reads("n1;s ab;s cd;s ..;w abcd;").does("swaps(0, 2)").due("now(3)", 321).due("now(5)", 1);
        fewest.anew().reads("n1;s ba;w ab;").due("now(5)", NONE).does("turn(0)").due("now(5)", 0);
    }
}
