import java.lang.reflect.InvocationTargetException;
import java.lang.reflect.Method;
import java.lang.reflect.Modifier;
import java.util.ArrayList;
import java.util.HashMap;
import java.util.List;
import java.util.Map;

/** One object of StripPage, called by texts such as "swaps(0, MAX)"; its past is known, so that twins can be made of it. */
final class Calls {
    /** "An object is used for at most 512 calls": no test may lean on what a later one answers. */
    static final int MOST = 512;
    /** What answers a call that threw: no promise answers it. */
    static final long THREW = Long.MIN_VALUE;
    private static final Map<String, Method> FACE = face();

    final List<String> past = new ArrayList<>();
    private final StripPage page = new StripPage();

    Calls() {
    }

    Calls(List<String> past) {
        for (String call : past) {
            answer(call);
        }
    }

    private static Map<String, Method> face() {
        Map<String, Method> face = new HashMap<>();
        for (Method method : StripPage.class.getDeclaredMethods()) {
            if (Modifier.isPublic(method.getModifiers())) {
                face.put(method.getName(), method);
            }
        }
        return face;
    }

    long answer(String call) {
        past.add(call);
        if (past.size() > MOST) {
            throw new IllegalStateException("the test makes more than " + MOST + " calls: " + call);
        }
        int open = call.indexOf('(');
        String inside = call.substring(open + 1, call.length() - 1);
        String[] told = inside.isEmpty() ? new String[0] : inside.split(", ");
        Object[] numbers = new Object[told.length];
        for (int k = 0; k < told.length; k++) {
            numbers[k] = number(told[k]);
        }
        try {
            return ((Number) FACE.get(call.substring(0, open)).invoke(page, numbers)).longValue();
        } catch (InvocationTargetException e) {
            System.out.println(call + " threw " + e.getCause());
            return THREW;
        } catch (IllegalAccessException e) {
            throw new IllegalStateException(e);
        }
    }

    private static int number(String told) {
        switch (told) {
            case "MIN":
                return Integer.MIN_VALUE;
            case "MAX":
                return Integer.MAX_VALUE;
            default:
                return Integer.parseInt(told);
        }
    }

    static List<String> typing(String text) {
        List<String> calls = new ArrayList<>();
        for (char c : text.toCharArray()) {
            calls.add("type(" + (int) c + ")");
        }
        return calls;
    }

    /** All that can be seen of an object with this past; each view has a twin of its own, for some change what they look at. */
    static List<Long> portrait(List<String> past) {
        List<Long> seen = new ArrayList<>();
        new Calls(past).lookAround(seen);
        new Calls(past).undoAll(seen);
        for (String image : new String[] {"back(0)", "back(1)"}) {
            Calls twin = new Calls(past);
            seen.add(twin.answer(image));
            twin.undoAll(seen);
        }
        Calls twin = new Calls(past);
        seen.add(twin.answer("page()"));
        twin.lookAround(seen);
        return seen;
    }

    private void lookAround(List<Long> seen) {
        long lines = answer("count(0)");
        long strips = answer("count(1)");
        long words = answer("count(2)");
        long lying = answer("now(0)");
        seen.add(lines);
        all(seen, "count(#)", 1, 6);
        all(seen, "now(#)", 0, 6);
        all(seen, "orders(#)", 0, 2);
        all(seen, "either(#)", 0, 3);
        all(seen, "best(#)", 0, 2);
        all(seen, "odds(#)", 0, 2);
        seen.add(answer("which()"));
        seen.add(answer("look()"));
        seen.add(answer("trace()"));
        all(seen, "place(#)", 0, lying);
        for (int s = 0; s < strips; s++) {
            all(seen, "strip(" + s + ", #)", 0, 4);
            for (int line = 0; line < lines; line++) {
                all(seen, "sign(" + s + ", " + line + ", #)", 0, 2);
            }
        }
        for (int w = 0; w < words; w++) {
            all(seen, "word(" + w + ", #)", 0, 6);
        }
        for (int line = 0; line < lines; line++) {
            all(seen, "line(" + line + ", #)", 0, 3);
            all(seen, "reads(" + line + ", #)", 0, 2 * lying);
        }
    }

    private void all(List<Long> seen, String call, int from, long to) {
        for (int k = from; k < to; k++) {
            seen.add(answer(call.replace("#", "" + k)));
        }
    }

    private void undoAll(List<Long> seen) {
        long strips = answer("count(1)");
        long left = 0;
        for (int k = 0; k < 12 && left >= 0; k++) {
            seen.add(answer("now(3)"));
            for (int s = 0; s < strips; s++) {
                seen.add(answer("strip(" + s + ", 1)"));
            }
            left = answer("undo()");
            seen.add(left);
        }
    }
}
