import java.util.ArrayList;
import java.util.Arrays;
import java.util.List;

/** Long runs of calls by a fixed sequence of chances, each answer held against a slow model in plain texts and lists. */
public final class ModelTest {
    /** An object answers 512 calls; a round makes some of them, and what is typed anew or undone again and again makes most. */
    private static final int RUNS = 1500, ROUNDS = 128, MOST_CALLS = 512, DEAREST_ROUND = 170;
    private static long chance = 20261117L;
    private static int wrong = 0;
    private static int calls = 0;

    private static int pick(int below) {
        chance = chance * 6364136223846793005L + 1442695040888963407L;
        return (int) ((chance >>> 33) % below);
    }

    /** What lies there: the part of the state that is undone and kept in images. */
    private static final class State {
        final List<Integer> row = new ArrayList<>();
        final boolean[] turned = new boolean[6];

        State copy() {
            State other = new State();
            other.row.addAll(row);
            System.arraycopy(turned, 0, other.turned, 0, 6);
            return other;
        }
    }

    private static final class Model {
        String text = "";
        int lines = 2;
        List<List<String>> strips = new ArrayList<>();
        List<String> words = new ArrayList<>();
        State state = new State();
        List<State> past = new ArrayList<>();
        final State[] images = new State[2];
        final List<List<State>> imagePasts = new ArrayList<>(Arrays.asList(null, null));
        List<int[]> seen = new ArrayList<>();
        long trace;

        int type(int c) {
            if (c < 0 || c > 255) return -1;
            if (text.length() == 150) return -3;
            text += (char) c;
            return text.length();
        }

        int clear() {
            int was = text.length();
            text = "";
            return was;
        }

        List<int[]> tokens() {
            List<int[]> tokens = new ArrayList<>();
            int i = 0;
            while (i < text.length()) {
                int end = i + 1;
                if (text.substring(i, i + 1).matches("[a-z.]")) {
                    while (end < text.length() && text.substring(end, end + 1).matches("[a-z.]")) end++;
                } else if (Character.isDigit(text.charAt(i))) {
                    while (end < text.length() && Character.isDigit(text.charAt(end))) end++;
                }
                if (text.charAt(i) != ' ') tokens.add(new int[] {i, end});
                i = end;
            }
            return tokens;
        }

        int page() {
            List<int[]> tokens = tokens();
            List<List<String>> newStrips = new ArrayList<>();
            List<String> newWords = new ArrayList<>();
            int newLines = 2;
            int items = 0;
            List<String> item = new ArrayList<>();
            for (int[] at : tokens) {
                String t = text.substring(at[0], at[1]);
                int k = item.size();
                boolean good;
                if (k == 0) {
                    good = t.equals("n") && items == 0 || t.equals("s") && newStrips.size() < 6 || t.equals("w") && newWords.size() < 8;
                } else if (k == (item.get(0).equals("s") ? newLines + 1 : 2)) {
                    good = t.equals(";");
                } else if (item.get(0).equals("n")) {
                    good = t.matches("[123]");
                } else {
                    good = t.matches(item.get(0).equals("s") ? "[a-z.]{2}" : "[a-z]{1,6}");
                }
                if (!good) return -10 - at[0];
                item.add(t);
                if (t.equals(";")) {
                    items++;
                    if (item.get(0).equals("n")) newLines = Integer.parseInt(item.get(1));
                    if (item.get(0).equals("s")) newStrips.add(new ArrayList<>(item.subList(1, item.size() - 1)));
                    if (item.get(0).equals("w")) newWords.add(item.get(1));
                    item.clear();
                }
            }
            if (!item.isEmpty()) return -10 - text.length();
            lines = newLines;
            strips = newStrips;
            words = newWords;
            text = "";
            state = new State();
            for (int s = 0; s < strips.size(); s++) state.row.add(s);
            past.clear();
            seen.clear();
            images[0] = null;
            images[1] = null;
            return items;
        }

        boolean isStrip(int s) {
            return s >= 0 && s < strips.size();
        }

        boolean isPlace(int p) {
            return p >= 0 && p < state.row.size();
        }

        String pair(int s, int line, boolean turned) {
            if (!turned) return strips.get(s).get(line);
            return new StringBuilder(strips.get(s).get(lines - 1 - line)).reverse().toString();
        }

        String textOf(int line, List<Integer> row, boolean[] turned) {
            String all = "";
            for (int s : row) all += pair(s, line, turned[s]);
            return all;
        }

        /** Runs, right runs, letters, letters in right runs. */
        int[] counts(int line, List<Integer> row, boolean[] turned) {
            int[] counts = new int[4];
            for (String run : textOf(line, row, turned).split("\\.")) {
                if (run.isEmpty()) continue;
                counts[0]++;
                counts[2] += run.length();
                if (words.contains(run)) {
                    counts[1]++;
                    counts[3] += run.length();
                }
            }
            return counts;
        }

        int rightLines(List<Integer> row, boolean[] turned) {
            int bits = 0;
            for (int line = 0; line < lines; line++) {
                int[] c = counts(line, row, turned);
                if (c[0] == c[1]) bits |= 1 << line;
            }
            return bits;
        }

        boolean right(List<Integer> row, boolean[] turned) {
            return rightLines(row, turned) == (1 << lines) - 1;
        }

        int sum(List<Integer> row, int what) {
            int sum = 0;
            for (int line = 0; line < lines; line++) sum += counts(line, row, state.turned)[what];
            return sum;
        }

        static int number(List<Integer> row) {
            String all = "0";
            for (int s : row) all += s + 1;
            return Integer.parseInt(all);
        }

        static void permute(List<Integer> left, List<Integer> row, List<List<Integer>> into) {
            if (left.isEmpty()) into.add(new ArrayList<>(row));
            for (int k = 0; k < left.size(); k++) {
                List<Integer> rest = new ArrayList<>(left);
                row.add(rest.remove(k));
                permute(rest, row, into);
                row.remove(row.size() - 1);
            }
        }

        /** In no order of numbers: who asks for the first must look for it. */
        static List<List<Integer>> all(List<Integer> row) {
            List<List<Integer>> into = new ArrayList<>();
            permute(row, new ArrayList<>(), into);
            return into;
        }

        List<List<Integer>> rightOnes(List<Integer> row) {
            List<List<Integer>> found = new ArrayList<>();
            for (List<Integer> order : all(row)) if (right(order, state.turned)) found.add(order);
            return found;
        }

        int next(int s) {
            int next = -100;
            for (List<Integer> order : rightOnes(state.row)) {
                int p = order.indexOf(s);
                int behind = p < 0 || p + 1 == order.size() ? -9 : order.get(p + 1);
                if (next != -100 && next != behind) return -9;
                next = behind;
            }
            return next == -100 ? -9 : next;
        }

        int letters(int s) {
            int bits = 0;
            for (String pair : strips.get(s)) for (char c : pair.toCharArray()) if (c != '.') bits |= 1 << c - 'a';
            return bits;
        }

        int strip(int s, int what) {
            if (!isStrip(s) || what < 0 || what > 3) return -1;
            if (what == 0) return state.row.contains(s) ? state.row.indexOf(s) : -9;
            if (what == 1) return state.turned[s] ? 1 : 0;
            return what == 2 ? letters(s) : next(s);
        }

        int sign(int s, int line, int i) {
            if (!isStrip(s) || line < 0 || line >= lines || i < 0 || i > 1) return -1;
            return strips.get(s).get(line).charAt(i);
        }

        int place(int p) {
            return isPlace(p) ? state.row.get(p) : -1;
        }

        int word(int w, int i) {
            if (w < 0 || w >= words.size() || i < 0 || i > 5) return -1;
            return i < words.get(w).length() ? words.get(w).charAt(i) : -9;
        }

        void remember() {
            past.add(state.copy());
            if (past.size() > 10) past.remove(0);
        }

        int swaps(int p, int q, boolean move) {
            if (!isPlace(p) || !isPlace(q) || p == q) return -1;
            remember();
            if (move) {
                state.row.add(q, state.row.remove(p));
            } else {
                state.row.set(p, state.row.set(q, state.row.get(p)));
            }
            return Integer.bitCount(rightLines(state.row, state.turned));
        }

        int turn(int s) {
            if (!isStrip(s)) return -1;
            if (!state.row.contains(s)) return -2;
            remember();
            state.turned[s] = !state.turned[s];
            return state.turned[s] ? 1 : 0;
        }

        int takes(int s) {
            if (!isStrip(s)) return -1;
            if (!state.row.contains(s)) return -2;
            remember();
            state.row.remove((Integer) s);
            return state.row.size();
        }

        int lays(int s) {
            if (!isStrip(s)) return -1;
            if (state.row.contains(s)) return -2;
            remember();
            state.row.add(s);
            return state.row.size();
        }

        int undo() {
            if (past.isEmpty()) return -2;
            state = past.remove(past.size() - 1);
            return past.size();
        }

        int aliens() {
            int bits = 0;
            for (int s : state.row) {
                List<Integer> rest = new ArrayList<>(state.row);
                rest.remove((Integer) s);
                if (!rightOnes(rest).isEmpty()) bits |= 1 << s;
            }
            return bits;
        }

        /** By trying each set of strips that might stay: the others are moved. */
        int fewest() {
            int fewest = -9;
            for (List<Integer> order : rightOnes(state.row)) {
                for (int stay = 0; stay < 64; stay++) {
                    int moved = moved(order, stay);
                    if (moved >= 0 && (fewest < 0 || moved < fewest)) fewest = moved;
                }
            }
            return fewest;
        }

        int moved(List<Integer> order, int stay) {
            List<Integer> a = new ArrayList<>(order);
            List<Integer> b = new ArrayList<>(state.row);
            a.removeIf(s -> (stay >> s & 1) == 0);
            b.removeIf(s -> (stay >> s & 1) == 0);
            return a.equals(b) ? order.size() - a.size() : -1;
        }

        int now(int what) {
            switch (what) {
                case 0: return state.row.size();
                case 1: return rightLines(state.row, state.turned);
                case 2: return sum(state.row, 1);
                case 3: return number(state.row);
                case 4: return aliens();
                case 5: return fewest();
                default: return -1;
            }
        }

        int line(int line, int what) {
            if (line < 0 || line >= lines || what < 0 || what > 2) return -1;
            return counts(line, state.row, state.turned)[what];
        }

        int reads(int line, int i) {
            if (line < 0 || line >= lines || i < 0 || i >= 2 * state.row.size()) return -1;
            return textOf(line, state.row, state.turned).charAt(i);
        }

        int orders(int what) {
            if (what < 0 || what > 1) return -1;
            List<List<Integer>> found = rightOnes(state.row);
            if (what == 0) return found.size();
            int first = -9;
            for (List<Integer> order : found) if (first < 0 || number(order) < first) first = number(order);
            return first;
        }

        int either(int what) {
            if (what < 0 || what > 2) return -1;
            int found = 0;
            int first = -9;
            int way = -9;
            for (List<Integer> order : all(state.row)) {
                for (int bits = 0; bits < 64; bits++) {
                    boolean[] turned = new boolean[6];
                    boolean lying = true;
                    for (int s = 0; s < 6; s++) {
                        turned[s] = (bits >> s & 1) == 1;
                        lying &= !turned[s] || state.row.contains(s);
                    }
                    if (!lying || !right(order, turned)) continue;
                    int n = number(order);
                    if (found == 0 || n < first || n == first && bits < way) {
                        first = n;
                        way = bits;
                    }
                    found++;
                }
            }
            return what == 0 ? found : what == 1 ? first : way;
        }

        int best(int what) {
            if (what < 0 || what > 1) return -1;
            int most = -1;
            int first = 0;
            for (List<Integer> order : all(state.row)) {
                int letters = sum(order, 3);
                if (letters > most || letters == most && number(order) < first) {
                    most = letters;
                    first = number(order);
                }
            }
            return what == 0 ? most : first;
        }

        int odds(int what) {
            if (what < 0 || what > 1) return -1;
            int upper = rightOnes(state.row).size();
            int lower = all(state.row).size();
            int a = upper;
            int b = lower;
            while (b != 0) {
                int rest = a % b;
                a = b;
                b = rest;
            }
            return (what == 0 ? upper : lower) / a;
        }

        int sees(int letter, int there) {
            if (letter < 0 || letter > 25 || there < 0 || there > 1) return -1;
            if (seen.size() == 6) return -3;
            seen.add(new int[] {letter, there});
            return seen.size();
        }

        int which() {
            int bits = 0;
            for (int s = 0; s < strips.size(); s++) {
                boolean fits = true;
                for (int[] one : seen) fits &= (letters(s) >> one[0] & 1) == one[1];
                if (fits) bits |= 1 << s;
            }
            return bits;
        }

        int look() {
            int which = which();
            int all = Integer.bitCount(which);
            if (all < 2) return -9;
            int least = all;
            int look = -9;
            for (int c = 25; c >= 0; c--) {
                int having = 0;
                for (int s = 0; s < strips.size(); s++) if ((which >> s & 1) == 1 && (letters(s) >> c & 1) == 1) having++;
                if (having == 0 || having == all) continue;
                int greater = Math.max(having, all - having);
                if (greater <= least) {
                    least = greater;
                    look = c;
                }
            }
            return look;
        }

        int mark(int kind, int s) {
            if (kind < 0 || kind > 5 || !isStrip(s)) return -1000000;
            int blanks = 0;
            for (String pair : strips.get(s)) for (char c : pair.toCharArray()) if (c == '.') blanks++;
            int creased = blanks + (state.turned[s] ? 10 : 0);
            int smudged = blanks - state.row.size();
            trace += new int[] {1, 11, 101, 1011, 10101, 100001}[kind];
            return new int[] {blanks, creased, smudged, creased * 2, smudged + s, blanks + sum(state.row, 1)}[kind];
        }

        static List<State> copies(List<State> states) {
            List<State> copies = new ArrayList<>();
            for (State one : states) copies.add(one.copy());
            return copies;
        }

        int keep(int image) {
            if (image < 0 || image > 1) return -1;
            images[image] = state.copy();
            imagePasts.set(image, copies(past));
            return state.row.size();
        }

        int back(int image) {
            if (image < 0 || image > 1) return -1;
            if (images[image] == null) return -2;
            state = images[image].copy();
            past = copies(imagePasts.get(image));
            return state.row.size();
        }

        int count(int what) {
            int[] counts = {lines, strips.size(), words.size(), seen.size(), past.size(), text.length()};
            return what < 0 || what > 5 ? -1 : counts[what];
        }
    }

    private static void due(String what, long got, long want) {
        calls++;
        if (got != want) {
            wrong++;
            if (wrong < 50) System.out.println(what + " answered " + got + ", due is " + want);
        }
    }

    /** Few letters and words cut from a line of them, so that right pages are no rarity. */
    private static String someText() {
        int lines = 1 + pick(3);
        int strips = pick(7);
        int letters = 1 + pick(4);
        int blanks = 1 + pick(5);
        StringBuilder text = new StringBuilder();
        if (lines != 2 || pick(2) == 0) text.append("n").append(lines).append(";");
        String[] read = new String[lines];
        for (int line = 0; line < lines; line++) {
            StringBuilder row = new StringBuilder();
            for (int i = 0; i < 2 * strips; i++) row.append(pick(6) < blanks ? '.' : (char) ('a' + pick(letters)));
            read[line] = row.toString();
        }
        for (int s = 0; s < strips; s++) {
            text.append("s");
            for (int line = 0; line < lines; line++) text.append(" ").append(read[line], 2 * s, 2 * s + 2);
            text.append(";");
        }
        int words = 0;
        for (String one : String.join(".", read).split("\\.")) {
            if (one.isEmpty() || one.length() > 6 || words == 8 || pick(8) == 0) continue;
            text.append("w ").append(one).append(";");
            words++;
        }
        while (words < 8 && pick(3) > 0) {
            text.append("w ");
            for (int i = pick(5); i >= 0; i--) text.append((char) ('a' + pick(letters)));
            text.append(";");
            words++;
        }
        if (pick(4) == 0 && text.length() > 0) {
            String bytes = "ab.nsw;0123 #Z";
            int at = pick(text.length());
            text.replace(at, at + pick(2), bytes.substring(pick(7), 7 + pick(8)));
        }
        return text.toString();
    }

    private static int number(int below) {
        return pick(below + 3) - 1;
    }

    private static void typeAndRead(StripPage x, Model m) {
        String text = someText();
        for (int i = 0; i < text.length() && i < 160; i++) due("type", x.type(text.charAt(i)), m.type(text.charAt(i)));
        due("page of " + m.text, x.page(), m.page());
        if (m.text.length() > 0 && pick(5) > 0) due("clear", x.clear(), m.clear());
    }

    private static void change(StripPage x, Model m) {
        int a = number(5);
        int b = number(5);
        int c = number(1);
        switch (pick(9)) {
            case 0: due("swaps", x.swaps(a, b), m.swaps(a, b, false)); break;
            case 1: due("moves", x.moves(a, b), m.swaps(a, b, true)); break;
            case 2: due("turn", x.turn(a), m.turn(a)); break;
            case 3: due("takes", x.takes(a), m.takes(a)); break;
            case 4:
            case 5: due("lays", x.lays(a), m.lays(a)); break;
            case 6:
                for (int k = pick(4) == 0 ? 12 : 1; k > 0; k--) undo(x, m);
                break;
            case 7: due("keep", x.keep(c), m.keep(c)); break;
            default: due("back", x.back(c), m.back(c)); break;
        }
    }

    private static void undo(StripPage x, Model m) {
        due("undo", x.undo(), m.undo());
        due("order, undone", x.now(3), m.now(3));
        for (int s = 0; s < 6; s++) due("turned, undone", x.strip(s, 1), m.strip(s, 1));
    }

    private static void ask(StripPage x, Model m) {
        int a = number(6);
        int b = number(3);
        int c = number(1);
        switch (pick(15)) {
            case 0: due("strip", x.strip(a, b), m.strip(a, b)); break;
            case 1: due("sign", x.sign(a, b, c), m.sign(a, b, c)); break;
            case 2: due("place", x.place(a), m.place(a)); break;
            case 4: due("now", x.now(a), m.now(a)); break;
            case 5: due("line", x.line(b, c), m.line(b, c)); break;
            case 6: due("reads", x.reads(b, 2 * a + c), m.reads(b, 2 * a + c)); break;
            case 7: due("orders", x.orders(c), m.orders(c)); break;
            case 8: due("best", x.best(c), m.best(c)); break;
            case 9: due("odds", x.odds(c), m.odds(c)); break;
            case 10: due("mark", x.mark(a, b), m.mark(a, b)); break;
            case 11: due("mark", x.mark(b, a), m.mark(b, a)); break;
            case 12: due("trace", x.trace(), m.trace); break;
            case 13: due("count", x.count(a), m.count(a)); break;
            default:
                if (pick(8) == 0) due("either", x.either(b), m.either(b));
                break;
        }
    }

    private static void see(StripPage x, Model m) {
        int letter = number(4);
        int there = number(1);
        switch (pick(6)) {
            case 0: due("sees", x.sees(letter, there), m.sees(letter, there)); break;
            case 1: due("which", x.which(), m.which()); break;
            case 2: due("look", x.look(), m.look()); break;
            case 3:
                int w = number(8);
                int i = number(6);
                due("word", x.word(w, i), m.word(w, i));
                break;
            case 4: due("look", x.look(), m.look()); break;
            default:
                if (pick(4) == 0) {
                    due("forget", x.forget(), m.seen.size());
                    m.seen.clear();
                }
                break;
        }
    }

    public static void main(String[] args) {
        for (int run = 0; run < RUNS; run++) {
            StripPage x = new StripPage();
            Model m = new Model();
            calls = 0;
            typeAndRead(x, m);
            for (int round = 0; round < ROUNDS && calls + DEAREST_ROUND <= MOST_CALLS; round++) {
                int kind = pick(60);
                if (kind == 0 && round > 60) {
                    typeAndRead(x, m);
                } else if (kind < 18) {
                    change(x, m);
                } else if (kind < 50) {
                    ask(x, m);
                } else {
                    see(x, m);
                }
            }
            if (calls > MOST_CALLS) throw new IllegalStateException("the test makes " + calls + " calls");
        }
        System.out.println(wrong == 0 ? "all answers are the model's" : wrong + " answers are not the model's");
        if (wrong != 0) System.exit(1);
    }
}
