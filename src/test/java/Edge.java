import java.io.IOException;
import java.nio.file.Files;
import java.nio.file.Path;
import java.util.ArrayList;
import java.util.List;
import java.util.Set;
import java.util.TreeSet;

/** One sentence of the document, the promise in which it shows, and an object that is held against it. */
final class Edge {
    static final int BAD = -1, STATE = -2, FULL = -3, NONE = -9, NO = -1000000;
    static final Set<Integer> PROMISES = new TreeSet<>();
    static int tests = 0;
    static int wrong = 0;
    private static final String DOCUMENT = document();
    /** Beside the nearest ones: what a shift, a product or a byte would make a small number of. */
    private static final int[] FAR = {-1, -2, -32, -256, Integer.MIN_VALUE, Integer.MIN_VALUE + 1, 32, 64, 256, 65536, 1 << 30,
            Integer.MAX_VALUE - 1, Integer.MAX_VALUE};

    private final String told;
    private final Calls calls;

    private Edge(String told, Calls calls) {
        this.told = told;
        this.calls = calls;
    }

    /** A test of its own for a sentence, with a new object. */
    static Edge of(int promise, String sentence) {
        Edge edge = new Edge("promise " + promise + ", \"" + sentence + "\": ", new Calls());
        tests++;
        PROMISES.add(promise);
        edge.must(DOCUMENT.contains(sentence), "the document has no such sentence");
        return edge;
    }

    private static String document() {
        try {
            return Files.readString(Path.of("../shared/DOC.md")).replaceAll("\\s+", " ");
        } catch (IOException e) {
            throw new IllegalStateException(e);
        }
    }

    private void must(boolean holds, String else_) {
        if (!holds) {
            wrong++;
            if (wrong < 60) {
                System.out.println(told + else_);
            }
        }
    }

    /** The same sentence, held against another new object. */
    Edge anew() {
        return new Edge(told, new Calls());
    }

    /** The same sentence, held against another object to which the same was done. */
    Edge twin() {
        return new Edge(told, new Calls(calls.past));
    }

    Edge due(String call, long want) {
        long got = calls.answer(call);
        must(got == want, call + " answered " + got + ", due is " + want);
        return this;
    }

    Edge same(String constant, long got, long want) {
        must(got == want, constant + " is " + got + ", due is " + want);
        return this;
    }

    /** Calls with # for a number that grows from 0 on, and what each of them is due to answer. */
    Edge dues(String call, long... wants) {
        for (int k = 0; k < wants.length; k++) {
            due(call.replace("#", "" + k), wants[k]);
        }
        return this;
    }

    /** What a line reads, sign by sign. */
    Edge shows(int line, String signs) {
        for (int i = 0; i < signs.length(); i++) {
            due("reads(" + line + ", " + i + ")", signs.charAt(i));
        }
        return this;
    }

    Edge does(String... all) {
        for (String call : all) {
            long got = calls.answer(call);
            must(got >= 0, call + " was refused: " + got);
        }
        return this;
    }

    Edge types(String text) {
        return does(Calls.typing(text).toArray(new String[0]));
    }

    Edge reads(String text) {
        return types(text).does("page()");
    }

    /** Each of these calls by itself is refused so, and nothing that can be seen has changed behind it. */
    Edge refuses(long want, String... all) {
        List<Long> before = Calls.portrait(calls.past);
        for (String call : all) {
            Calls twin = new Calls(calls.past);
            long got = twin.answer(call);
            must(got == want, call + " answered " + got + ", due is " + want);
            must(Calls.portrait(twin.past).equals(before), call + " has changed something");
        }
        return this;
    }

    /** Each of these calls by itself is answered, and changes nothing. */
    Edge asks(String... all) {
        List<Long> before = Calls.portrait(calls.past);
        for (String call : all) {
            Calls twin = new Calls(calls.past);
            long got = twin.answer(call);
            must(got >= 0 || got == NONE, call + " was refused: " + got);
            must(Calls.portrait(twin.past).equals(before), call + " has changed something");
        }
        return this;
    }

    /** A text that is refused with this fault by a page on which something was done. */
    Edge fault(String text, int place) {
        anew().reads("n1;s ab;s cd;w ab;").does("turn(1)", "takes(0)", "sees(0, 1)", "keep(0)").types(text)
                .refuses(-10 - place, "page()");
        return this;
    }

    /** The call with numbers for # that are below 0, or not below the first that is not allowed. */
    static String[] beyond(String call, int first) {
        Set<Integer> numbers = new TreeSet<>();
        numbers.add(first);
        numbers.add(first + 1);
        for (int far : FAR) {
            if (far < 0 || far >= first) {
                numbers.add(far);
            }
        }
        List<String> all = new ArrayList<>();
        for (int number : numbers) {
            all.add(call.replace("#", "" + number));
        }
        return all.toArray(new String[0]);
    }
}
