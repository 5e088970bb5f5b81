/** Each sentence of the document that names a boundary, by a test of its own. */
public final class EdgeTest {
    private static final int PROMISES = 30;

    private EdgeTest() {
    }

    public static void main(String[] args) {
        TextEdges.run();
        StripEdges.run();
        DeskEdges.run();
        OrderEdges.run();
        SeenEdges.run();
        KindEdges.run();
        RefusalEdges.run();
        for (int promise = 1; promise <= PROMISES; promise++) {
            if (!Edge.PROMISES.contains(promise)) {
                Edge.wrong++;
                System.out.println("promise " + promise + " has no test");
            }
        }
        System.out.println(Edge.tests + " sentences, " + (Edge.wrong == 0 ? "all of them hold" : Edge.wrong + " answers are not as due"));
        if (Edge.wrong != 0) {
            System.exit(1);
        }
    }
}
