import java.util.Arrays;

/** A shredded page put together again. DOC.md tells, as numbered promises, what each call answers. */
public final class StripPage {
    public static final int BAD = -1, STATE = -2, FULL = -3, NONE = -9;
    public static final int NO = -1000000;

    private static final int FIRST_LINES = 2, MOST_LINES = 3, MOST_STRIPS = 6, MOST_WORDS = 8, MOST_LETTERS = 6;
    private static final int MOST_BYTES = 150, MOST_SEEN = 6, MOST_UNDONE = 10, MOST_IMAGES = 2, KINDS = 6;
    /** Signs are held as 0 .. 25 for letters and BLANK behind them, so that one can be an index. */
    private static final int ALPHABET = 26, BLANK = 26, SIGNS = 27;

    private final Text text = new Text();
    /** What the latest good text told; the draft takes the next one, so that a fault leaves the sheet alone. */
    private Sheet sheet = new Sheet();
    private Sheet draft = new Sheet();
    private final Desk desk = new Desk();
    private final Desk image0 = new Desk();
    private final Desk image1 = new Desk();
    private int kept;
    private int seen;
    private int seenThere;
    private int seenMissing;
    private long asked;
    private final Reading reading = new Reading();
    private final RightOrders rightOrders = new RightOrders();
    private final EitherWay eitherWay = new EitherWay();
    private final BestOrder bestOrder = new BestOrder();
    private final Row scratch = new Row();

    public StripPage() {
    }

    // ---- the page

    public int type(int c) {
        if (c < 0 || c > 255) {
            return BAD;
        }
        return text.append(c) ? text.length : FULL;
    }

    public int clear() {
        return text.wipe();
    }

    public int page() {
        int items = text.readInto(draft);
        if (items < 0) {
            return items;
        }
        Sheet old = sheet;
        sheet = draft;
        draft = old;
        text.wipe();
        desk.layAll(sheet.strips);
        eitherWay.drop();
        forget();
        kept = 0;
        return items;
    }

    public int strip(int s, int what) {
        if (!isStrip(s)) {
            return BAD;
        }
        switch (what) {
            case 0:
                return desk.row.placeOf(s);
            case 1:
                return desk.row.wayOf(s);
            case 2:
                return sheet.lettersOn(s);
            case 3:
                rightOrders.search(sheet, desk.row);
                return rightOrders.follower[s];
            default:
                return BAD;
        }
    }

    public int sign(int s, int line, int i) {
        if (!isStrip(s) || !isLine(line) || i < 0 || i > 1) {
            return BAD;
        }
        return byteOf(sheet.shown(s, 0, line, i));
    }

    public int place(int p) {
        return isPlace(p) ? desk.row.strips[p] : BAD;
    }

    public int word(int w, int i) {
        if (w < 0 || w >= sheet.words || i < 0 || i >= MOST_LETTERS) {
            return BAD;
        }
        return i < sheet.lengths[w] ? byteOf(sheet.letters[w * MOST_LETTERS + i]) : NONE;
    }

    // ---- what is done

    public int swaps(int p, int q) {
        if (!isPlace(p) || !isPlace(q) || p == q) {
            return BAD;
        }
        desk.remember();
        desk.row.exchange(p, q);
        return Integer.bitCount(rightLines());
    }

    public int moves(int p, int q) {
        if (!isPlace(p) || !isPlace(q) || p == q) {
            return BAD;
        }
        desk.remember();
        desk.row.carry(p, q);
        return Integer.bitCount(rightLines());
    }

    public int turn(int s) {
        int refusal = refusalOf(s, true);
        if (refusal != 0) {
            return refusal;
        }
        desk.remember();
        desk.row.turned ^= 1 << s;
        return desk.row.wayOf(s);
    }

    public int takes(int s) {
        int refusal = refusalOf(s, true);
        if (refusal != 0) {
            return refusal;
        }
        desk.remember();
        desk.row.remove(s);
        return desk.row.lying;
    }

    public int lays(int s) {
        int refusal = refusalOf(s, false);
        if (refusal != 0) {
            return refusal;
        }
        desk.remember();
        desk.row.append(s);
        return desk.row.lying;
    }

    public int undo() {
        return desk.goBack() ? desk.known : STATE;
    }

    public int now(int what) {
        switch (what) {
            case 0:
                return desk.row.lying;
            case 1:
                return rightLines();
            case 2:
                return rightRuns();
            case 3:
                return desk.row.number();
            case 4:
                return aliens();
            case 5:
                rightOrders.search(sheet, desk.row);
                return rightOrders.fewest;
            default:
                return BAD;
        }
    }

    public int line(int line, int what) {
        if (!isLine(line)) {
            return BAD;
        }
        reading.read(sheet, desk.row, line);
        switch (what) {
            case 0:
                return reading.runs;
            case 1:
                return reading.rightRuns;
            case 2:
                return reading.letters;
            default:
                return BAD;
        }
    }

    public int reads(int line, int i) {
        if (!isLine(line) || i < 0 || i >= 2 * desk.row.lying) {
            return BAD;
        }
        int s = desk.row.strips[i / 2];
        return byteOf(sheet.shown(s, desk.row.wayOf(s), line, i % 2));
    }

    // ---- orders

    public int orders(int what) {
        if (what < 0 || what > 1) {
            return BAD;
        }
        rightOrders.search(sheet, desk.row);
        return what == 0 ? rightOrders.found : rightOrders.first;
    }

    public int either(int what) {
        if (what < 0 || what > 2) {
            return BAD;
        }
        if (!eitherWay.knows(desk.row)) {
            eitherWay.search(sheet, desk.row);
        }
        if (what == 0) {
            return eitherWay.found;
        }
        return what == 1 ? eitherWay.first : eitherWay.firstTurned;
    }

    public int best(int what) {
        if (what < 0 || what > 1) {
            return BAD;
        }
        bestOrder.search(sheet, desk.row);
        return what == 0 ? bestOrder.most : bestOrder.first;
    }

    public int odds(int what) {
        if (what < 0 || what > 1) {
            return BAD;
        }
        rightOrders.search(sheet, desk.row);
        int right = rightOrders.found;
        int all = ordersOf(desk.row.lying);
        return inLeastTerms(what == 0 ? right : all, right, all);
    }

    // ---- which it was

    public int sees(int letter, int there) {
        if (letter < 0 || letter >= ALPHABET || there < 0 || there > 1) {
            return BAD;
        }
        if (seen >= MOST_SEEN) {
            return FULL;
        }
        if (there == 1) {
            seenThere |= 1 << letter;
        } else {
            seenMissing |= 1 << letter;
        }
        seen++;
        return seen;
    }

    public int forget() {
        int was = seen;
        seen = 0;
        seenThere = 0;
        seenMissing = 0;
        return was;
    }

    public int which() {
        int fitting = 0;
        for (int s = 0; s < sheet.strips; s++) {
            int letters = sheet.lettersOn(s);
            if ((letters & seenThere) == seenThere && (letters & seenMissing) == 0) {
                fitting |= 1 << s;
            }
        }
        return fitting;
    }

    public int look() {
        int fitting = which();
        // A letter that leaves all of them on one side parts nothing, so it must stay below this.
        int least = Integer.bitCount(fitting);
        int letter = NONE;
        for (int c = 0; c < ALPHABET; c++) {
            int part = greaterPart(fitting, c);
            if (part < least) {
                least = part;
                letter = c;
            }
        }
        return letter;
    }

    // ---- kinds, images

    public int mark(int kind, int s) {
        if (kind < 0 || kind >= KINDS || !isStrip(s)) {
            return NO;
        }
        switch (kind) {
            case 1:
                return creasedMark(s);
            case 2:
                return smudgedMark(s);
            case 3:
                return tornMark(s);
            case 4:
                return greasyMark(s);
            case 5:
                return singedMark(s);
            default:
                return plainMark(s);
        }
    }

    public int keep(int image) {
        if (image < 0 || image >= MOST_IMAGES) {
            return BAD;
        }
        imageOf(image).copy(desk);
        kept |= 1 << image;
        return desk.row.lying;
    }

    public int back(int image) {
        if (image < 0 || image >= MOST_IMAGES) {
            return BAD;
        }
        if ((kept >> image & 1) == 0) {
            return STATE;
        }
        desk.copy(imageOf(image));
        return desk.row.lying;
    }

    public int count(int what) {
        switch (what) {
            case 0:
                return sheet.lines;
            case 1:
                return sheet.strips;
            case 2:
                return sheet.words;
            case 3:
                return seen;
            case 4:
                return desk.known;
            case 5:
                return text.length;
            default:
                return BAD;
        }
    }

    public long trace() {
        return asked;
    }

    // ---- what the calls share

    private boolean isStrip(int s) {
        return s >= 0 && s < sheet.strips;
    }

    private boolean isLine(int line) {
        return line >= 0 && line < sheet.lines;
    }

    private boolean isPlace(int p) {
        return p >= 0 && p < desk.row.lying;
    }

    /** BAD, STATE, or 0 if the strip is told and lies on the desk just as the call needs it. */
    private int refusalOf(int s, boolean mustLie) {
        if (!isStrip(s)) {
            return BAD;
        }
        boolean lies = desk.row.placeOf(s) != NONE;
        return lies == mustLie ? 0 : STATE;
    }

    private Desk imageOf(int image) {
        return image == 0 ? image0 : image1;
    }

    private int rightLines() {
        int right = 0;
        for (int line = 0; line < sheet.lines; line++) {
            reading.read(sheet, desk.row, line);
            if (reading.rightRuns == reading.runs) {
                right |= 1 << line;
            }
        }
        return right;
    }

    private int rightRuns() {
        int right = 0;
        for (int line = 0; line < sheet.lines; line++) {
            reading.read(sheet, desk.row, line);
            right += reading.rightRuns;
        }
        return right;
    }

    private int aliens() {
        int aliens = 0;
        for (int p = 0; p < desk.row.lying; p++) {
            int s = desk.row.strips[p];
            scratch.copy(desk.row);
            scratch.remove(s);
            rightOrders.search(sheet, scratch);
            if (rightOrders.found > 0) {
                aliens |= 1 << s;
            }
        }
        return aliens;
    }

    private int greaterPart(int fitting, int letter) {
        int having = 0;
        for (int s = 0; s < sheet.strips; s++) {
            having += fitting >> s & sheet.lettersOn(s) >> letter & 1;
        }
        return Math.max(having, Integer.bitCount(fitting) - having);
    }

    private static int byteOf(int sign) {
        return sign == BLANK ? '.' : 'a' + sign;
    }

    private static int ordersOf(int strips) {
        int orders = 1;
        for (int k = 2; k <= strips; k++) {
            orders *= k;
        }
        return orders;
    }

    /** One number of a fraction, its upper or its lower, by the greatest divisor of both. */
    private static int inLeastTerms(int number, int upper, int lower) {
        for (int d = lower; d > 1; d--) {
            if (upper % d == 0 && lower % d == 0) {
                return number / d;
            }
        }
        return number;
    }

    // Each kind's body brings its own number to the trace, and asks the body of the kind above once.

    private int plainMark(int s) {
        asked += 1;
        return sheet.blanksOn(s);
    }

    private int creasedMark(int s) {
        asked += 10;
        return plainMark(s) + 10 * desk.row.wayOf(s);
    }

    private int smudgedMark(int s) {
        asked += 100;
        return plainMark(s) - desk.row.lying;
    }

    private int tornMark(int s) {
        asked += 1000;
        return creasedMark(s) * 2;
    }

    private int greasyMark(int s) {
        asked += 10000;
        return smudgedMark(s) + s;
    }

    private int singedMark(int s) {
        asked += 100000;
        return plainMark(s) + rightRuns();
    }

    /** The words as a tree of letters: what a run is so far is one number, the node it has come to. */
    private static final class Dictionary {
        static final int DEAD = 0, ROOT = 1, MOST_NODES = 2 + MOST_WORDS * MOST_LETTERS;
        private final int[] next = new int[MOST_NODES * SIGNS];
        private int nodes;

        Dictionary() {
            empty();
        }

        void empty() {
            Arrays.fill(next, DEAD);
            // No run at all may always end: blanks lie side by side.
            mayEndAt(ROOT);
            nodes = ROOT + 1;
        }

        void add(int[] letters, int from, int length) {
            int node = ROOT;
            for (int i = from; i < from + length; i++) {
                node = grow(node, letters[i]);
            }
            mayEndAt(node);
        }

        private int grow(int node, int letter) {
            int at = node * SIGNS + letter;
            if (next[at] == DEAD && nodes < MOST_NODES) {
                next[at] = nodes;
                nodes++;
            }
            return next[at];
        }

        private void mayEndAt(int node) {
            next[node * SIGNS + BLANK] = ROOT;
        }

        /** Behind a blank a new run may begin, but only if the one ahead of it was a word. */
        int step(int node, int sign) {
            return next[node * SIGNS + sign];
        }

        boolean endsAt(int node) {
            return next[node * SIGNS + BLANK] == ROOT;
        }
    }

    /** What a text tells: lines, strips and words. */
    private static final class Sheet {
        int lines = FIRST_LINES;
        int strips;
        int words;
        final int[] letters = new int[MOST_WORDS * MOST_LETTERS];
        final int[] lengths = new int[MOST_WORDS];
        final Dictionary dictionary = new Dictionary();
        /** Both ways of each strip, as told and turned: the searches ask for them again and again. */
        private final int[] signs = new int[MOST_STRIPS * 2 * MOST_LINES * 2];

        void empty() {
            lines = FIRST_LINES;
            strips = 0;
            words = 0;
            dictionary.empty();
        }

        private static int spotOf(int s, int way, int line) {
            return ((s * 2 + way) * MOST_LINES + line) * 2;
        }

        /** A pair of the strip that is told now; its number is that of strips told ahead of it. */
        void tellPair(int line, int left, int right) {
            int told = spotOf(strips, 0, line);
            signs[told] = left;
            signs[told + 1] = right;
            int turned = spotOf(strips, 1, lines - 1 - line);
            signs[turned] = right;
            signs[turned + 1] = left;
        }

        void tellLetter(int i, int letter) {
            letters[words * MOST_LETTERS + i] = letter;
        }

        void endWord(int length) {
            lengths[words] = length;
            dictionary.add(letters, words * MOST_LETTERS, length);
            words++;
        }

        int shown(int s, int way, int line, int i) {
            return signs[spotOf(s, way, line) + i];
        }

        /** The node behind both signs that a strip shows in a line. */
        int pass(int node, int s, int way, int line) {
            int at = spotOf(s, way, line);
            return dictionary.step(dictionary.step(node, signs[at]), signs[at + 1]);
        }

        int lettersOn(int s) {
            int bits = 0;
            int from = spotOf(s, 0, 0);
            for (int at = from; at < from + 2 * lines; at++) {
                if (signs[at] != BLANK) {
                    bits |= 1 << signs[at];
                }
            }
            return bits;
        }

        int blanksOn(int s) {
            int blanks = 0;
            int from = spotOf(s, 0, 0);
            for (int at = from; at < from + 2 * lines; at++) {
                if (signs[at] == BLANK) {
                    blanks++;
                }
            }
            return blanks;
        }
    }

    /** The bytes that were typed, and the reader of them, who stands at one token at a time. */
    private static final class Text {
        private static final int END = 0, ROW = 1, NUMBER = 2, STOP = 3, OTHER = 4;
        int length;
        private final int[] bytes = new int[MOST_BYTES];
        private int from;
        private int to;
        private int token;

        boolean append(int c) {
            if (length >= MOST_BYTES) {
                return false;
            }
            bytes[length] = c;
            length++;
            return true;
        }

        int wipe() {
            int was = length;
            length = 0;
            return was;
        }

        /** How many items there are; -10 less the fault, which is where the reader stopped. */
        int readInto(Sheet sheet) {
            sheet.empty();
            to = 0;
            advance();
            int items = 0;
            while (token != END && items < MOST_BYTES) {
                if (!readItem(sheet, items == 0)) {
                    return -10 - from;
                }
                items++;
            }
            return items;
        }

        private boolean readItem(Sheet sheet, boolean first) {
            if (token != ROW || to - from != 1) {
                return false;
            }
            switch (bytes[from]) {
                case 'n':
                    return first && readLines(sheet) && readStop();
                case 's':
                    return sheet.strips < MOST_STRIPS && readStrip(sheet) && readStop();
                case 'w':
                    return sheet.words < MOST_WORDS && readWord(sheet) && readStop();
                default:
                    return false;
            }
        }

        /** Numbers that are no numbers (0 ahead, above 99) have two figures at least, so they fail here too. */
        private boolean readLines(Sheet sheet) {
            advance();
            if (token != NUMBER || to - from != 1) {
                return false;
            }
            int lines = bytes[from] - '0';
            if (lines < 1 || lines > MOST_LINES) {
                return false;
            }
            sheet.lines = lines;
            return true;
        }

        private boolean readStrip(Sheet sheet) {
            for (int line = 0; line < sheet.lines; line++) {
                advance();
                if (token != ROW || to - from != 2) {
                    return false;
                }
                sheet.tellPair(line, signOf(bytes[from]), signOf(bytes[from + 1]));
            }
            sheet.strips++;
            return true;
        }

        private boolean readWord(Sheet sheet) {
            advance();
            if (token != ROW || to - from > MOST_LETTERS) {
                return false;
            }
            for (int i = 0; i < to - from; i++) {
                int sign = signOf(bytes[from + i]);
                if (sign == BLANK) {
                    return false;
                }
                sheet.tellLetter(i, sign);
            }
            sheet.endWord(to - from);
            return true;
        }

        private boolean readStop() {
            advance();
            if (token != STOP) {
                return false;
            }
            advance();
            return true;
        }

        /** At the end of the text the token is empty and begins at the text's length. */
        private void advance() {
            from = to;
            while (from < length && bytes[from] == ' ') {
                from++;
            }
            to = from;
            if (from >= length) {
                token = END;
                return;
            }
            token = tokenOf(bytes[from]);
            to = from + 1;
            boolean grows = token == ROW || token == NUMBER;
            while (grows && to < length && tokenOf(bytes[to]) == token) {
                to++;
            }
        }

        private static int tokenOf(int c) {
            if (c >= 'a' && c <= 'z' || c == '.') {
                return ROW;
            }
            if (c >= '0' && c <= '9') {
                return NUMBER;
            }
            return c == ';' ? STOP : OTHER;
        }

        private static int signOf(int c) {
            return c == '.' ? BLANK : c - 'a';
        }
    }

    /** Strips side by side, and who is turned (of all strips: those that were taken stay as they were). */
    private static final class Row {
        final int[] strips = new int[MOST_STRIPS];
        int lying;
        int turned;

        void copy(Row other) {
            System.arraycopy(other.strips, 0, strips, 0, MOST_STRIPS);
            lying = other.lying;
            turned = other.turned;
        }

        int wayOf(int s) {
            return turned >> s & 1;
        }

        int placeOf(int s) {
            for (int p = 0; p < lying; p++) {
                if (strips[p] == s) {
                    return p;
                }
            }
            return NONE;
        }

        int number() {
            int number = 0;
            for (int p = 0; p < lying; p++) {
                number = number * 10 + strips[p] + 1;
            }
            return number;
        }

        int set() {
            int set = 0;
            for (int p = 0; p < lying; p++) {
                set |= 1 << strips[p];
            }
            return set;
        }

        void put(int p, int s, int way) {
            strips[p] = s;
            turned = turned & ~(1 << s) | way << s;
        }

        void exchange(int p, int q) {
            int s = strips[p];
            strips[p] = strips[q];
            strips[q] = s;
        }

        void carry(int p, int q) {
            int step = p < q ? 1 : -1;
            int length = Math.abs(q - p);
            for (int k = 0; k < length; k++) {
                exchange(p + k * step, p + (k + 1) * step);
            }
        }

        void append(int s) {
            if (lying < MOST_STRIPS) {
                strips[lying] = s;
                lying++;
            }
        }

        void remove(int s) {
            int place = placeOf(s);
            if (place == NONE) {
                return;
            }
            carry(place, lying - 1);
            lying--;
        }
    }

    /** The row that lies there now and those that were ahead of the latest changes, the oldest first. */
    private static final class Desk {
        final Row row = new Row();
        int known;
        private final Row[] past = new Row[MOST_UNDONE];

        Desk() {
            for (int k = 0; k < MOST_UNDONE; k++) {
                past[k] = new Row();
            }
        }

        void layAll(int strips) {
            row.lying = 0;
            row.turned = 0;
            for (int s = 0; s < strips; s++) {
                row.append(s);
            }
            known = 0;
        }

        void remember() {
            if (known >= MOST_UNDONE) {
                loseOldest();
            }
            past[known].copy(row);
            known++;
        }

        private void loseOldest() {
            for (int k = 1; k < MOST_UNDONE; k++) {
                past[k - 1].copy(past[k]);
            }
            known = MOST_UNDONE - 1;
        }

        boolean goBack() {
            if (known <= 0) {
                return false;
            }
            known--;
            row.copy(past[known]);
            return true;
        }

        void copy(Desk other) {
            row.copy(other.row);
            known = other.known;
            for (int k = 0; k < known; k++) {
                past[k].copy(other.past[k]);
            }
        }
    }

    /** What one line of a row of strips reads: its runs, and which of them are words. */
    private static final class Reading {
        int runs;
        int rightRuns;
        int letters;
        int rightLetters;
        private int node;
        private int length;

        void read(Sheet sheet, Row row, int line) {
            runs = 0;
            rightRuns = 0;
            letters = 0;
            rightLetters = 0;
            node = Dictionary.ROOT;
            length = 0;
            for (int i = 0; i < 2 * row.lying; i++) {
                int s = row.strips[i / 2];
                int sign = sheet.shown(s, row.wayOf(s), line, i % 2);
                if (sign == BLANK) {
                    endRun(sheet.dictionary);
                } else {
                    length++;
                    node = sheet.dictionary.step(node, sign);
                }
            }
            endRun(sheet.dictionary);
        }

        private void endRun(Dictionary dictionary) {
            if (length > 0) {
                runs++;
                letters += length;
                if (dictionary.endsAt(node)) {
                    rightRuns++;
                    rightLetters += length;
                }
            }
            node = Dictionary.ROOT;
            length = 0;
        }
    }

    /** A walk through all orders of some strips, the least number first. */
    private abstract static class Walk {
        /** The order that the walk has come to. */
        final Row row = new Row();
        private final boolean bothWays;
        private final boolean rightOnly;
        /** For each line the node behind so many strips: what can't be right any more is not gone on with. */
        private final int[] nodes = new int[(MOST_STRIPS + 1) * MOST_LINES];

        Walk(boolean bothWays, boolean rightOnly) {
            this.bothWays = bothWays;
            this.rightOnly = rightOnly;
        }

        abstract void begin(Row from);

        /** The row is whole now, and right if only right ones are asked for. */
        abstract void meet(Sheet sheet, int number);

        final void search(Sheet sheet, Row from) {
            begin(from);
            row.copy(from);
            for (int line = 0; line < MOST_LINES; line++) {
                nodes[line] = Dictionary.ROOT;
            }
            lengthen(sheet, 0, from.set(), 0);
        }

        private void lengthen(Sheet sheet, int depth, int left, int number) {
            if (depth >= row.lying) {
                if (!rightOnly || endsRight(sheet, depth)) {
                    meet(sheet, number);
                }
                return;
            }
            for (int s = 0; s < sheet.strips; s++) {
                for (int way = 0; way < 2; way++) {
                    if ((left >> s & 1) == 1 && mayLie(s, way) && goesOn(sheet, depth, s, way)) {
                        row.put(depth, s, way);
                        lengthen(sheet, depth + 1, left & ~(1 << s), number * 10 + s + 1);
                    }
                }
            }
        }

        private boolean mayLie(int s, int way) {
            return bothWays || row.wayOf(s) == way;
        }

        private boolean goesOn(Sheet sheet, int depth, int s, int way) {
            if (!rightOnly) {
                return true;
            }
            int at = depth * MOST_LINES;
            for (int line = 0; line < sheet.lines; line++) {
                int node = sheet.pass(nodes[at + line], s, way, line);
                if (node == Dictionary.DEAD) {
                    return false;
                }
                nodes[at + MOST_LINES + line] = node;
            }
            return true;
        }

        private boolean endsRight(Sheet sheet, int depth) {
            int at = depth * MOST_LINES;
            for (int line = 0; line < sheet.lines; line++) {
                if (!sheet.dictionary.endsAt(nodes[at + line])) {
                    return false;
                }
            }
            return true;
        }
    }

    /** The orders by which the page is right, with strips turned as they are. */
    private static final class RightOrders extends Walk {
        int found;
        int first;
        int fewest;
        final int[] follower = new int[MOST_STRIPS];
        private final int[] placeNow = new int[MOST_STRIPS];
        private final int[] chain = new int[MOST_STRIPS];

        RightOrders() {
            super(false, true);
        }

        void begin(Row from) {
            found = 0;
            first = NONE;
            fewest = NONE;
            Arrays.fill(follower, NONE);
            for (int p = 0; p < from.lying; p++) {
                placeNow[from.strips[p]] = p;
            }
        }

        void meet(Sheet sheet, int number) {
            if (found == 0) {
                first = number;
            }
            noteFollowers();
            int moved = row.lying - mostThatStay();
            if (found == 0 || moved < fewest) {
                fewest = moved;
            }
            found++;
        }

        /** NONE stays NONE: a strip that was the last once, or had two followers, has none for sure. */
        private void noteFollowers() {
            for (int p = 0; p < row.lying; p++) {
                int s = row.strips[p];
                int behind = p + 1 < row.lying ? row.strips[p + 1] : NONE;
                if (found == 0) {
                    follower[s] = behind;
                } else if (follower[s] != behind) {
                    follower[s] = NONE;
                }
            }
        }

        /** Strips need no move if they follow one another already as they do in this order. */
        private int mostThatStay() {
            int most = 0;
            for (int p = 0; p < row.lying; p++) {
                chain[p] = 1;
                for (int q = 0; q < p; q++) {
                    if (placeNow[row.strips[q]] < placeNow[row.strips[p]]) {
                        chain[p] = Math.max(chain[p], chain[q] + 1);
                    }
                }
                most = Math.max(most, chain[p]);
            }
            return most;
        }
    }

    /** Orders and ways to be turned together, by which the page is right. */
    private static final class EitherWay extends Walk {
        private static final int UNKNOWN = -1;
        int found;
        int first;
        int firstTurned;
        /** The answer hangs on which strips lie there alone, and is dear: it is kept for those. */
        private int searched = UNKNOWN;

        EitherWay() {
            super(true, true);
        }

        void drop() {
            searched = UNKNOWN;
        }

        boolean knows(Row from) {
            return from.set() == searched;
        }

        void begin(Row from) {
            searched = from.set();
            found = 0;
            first = NONE;
            firstTurned = NONE;
        }

        void meet(Sheet sheet, int number) {
            int turned = row.turned & searched;
            if (found == 0 || number < first || number == first && turned < firstTurned) {
                first = number;
                firstTurned = turned;
            }
            found++;
        }
    }

    /** The order by which most letters are in right runs. */
    private static final class BestOrder extends Walk {
        int most;
        int first;
        private final Reading reading = new Reading();

        BestOrder() {
            super(false, false);
        }

        void begin(Row from) {
            most = -1;
            first = NONE;
        }

        void meet(Sheet sheet, int number) {
            int letters = 0;
            for (int line = 0; line < sheet.lines; line++) {
                reading.read(sheet, row, line);
                letters += reading.rightLetters;
            }
            if (letters > most) {
                most = letters;
                first = number;
            }
        }
    }
}
