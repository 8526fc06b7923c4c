/**
 * Formulas of first order become clauses; from these new ones are drawn, one clause being given
 * after the other, until there is the empty one or none is left; and lines of a proof are looked
 * at, each by itself.
 */
public final class RefutationDesk {
    public static final int NONE = -1;
    public static final int OPEN = 0, REFUTED = 1, FULL = 2, SATURATED = 3, EXHAUSTED = 4;

    private static final int MOST_TEXT = 160;
    private static final int MOST_LITERALS = 4;
    private static final int MOST_WEIGHT = 16;
    private static final int MOST_CLAUSES = 100;
    private static final int MOST_LINES = 24;
    private static final int MOST_STEPS = 50;
    private static final int MOST_ROWS = 16;
    private static final int MOST_IN_ROW = 8;
    private static final int MOST_MADE = 99;
    private static final int MOST_OPERATORS = 10;
    private static final int MOST_BRACKETS = 14;

    /** Two clauses that fit have 32 symbols together, so nothing nests as deep as this. */
    private static final int TOO_DEEP = 40;

    // A symbol is one int: its name above the lowest byte, how many terms it has in that byte.
    // Names below FUNCTIONS are variables, from ATOMS on capital letters, two for each letter.
    private static final int NAME = 8;
    private static final int TERMS = 255;
    private static final int MOST_VARIABLES = 128;
    private static final int FUNCTIONS = MOST_VARIABLES << NAME;
    /** Among functions: a letter's names are itself and with each digit, then come $1, $2, .. */
    private static final int NAMES_OF_LETTER = 11;
    private static final int MADE_NAMES = 128;
    private static final int MADE = FUNCTIONS + (MADE_NAMES << NAME);
    private static final int ATOMS = 512 << NAME;
    private static final int DENIED = 1 << NAME;

    private static final int WAITS = 0, ACTIVE = 1, GONE = 2;
    private static final int ROW = 0, FACTOR = 1, RESOLVENT = 2;

    private final Reader reader;
    private final Search search;
    private final Printer printer;
    private final Draft claimed;
    private final Clause[] lines;
    private int lineCount;
    private int refusedAt;

    public RefutationDesk() {
        reader = new Reader();
        search = new Search();
        printer = new Printer();
        claimed = new Draft();
        lines = new Clause[MOST_LINES];
        refusedAt = NONE;
    }

    public int type(long more) throws IllegalArgumentException, UnsupportedOperationException {
        int count = 0;
        for (int k = 0; k < 8; k++) {
            int c = byteOf(more, k);
            if (c == 0) {
                break;
            }
            if (c < 33 || c > 126) {
                throw new IllegalArgumentException();
            }
            count++;
        }
        if (reader.length + count > MOST_TEXT) {
            throw new UnsupportedOperationException();
        }
        for (int k = 0; k < count; k++) {
            reader.text[reader.length] = (char) byteOf(more, k);
            reader.length++;
        }
        return reader.length;
    }

    public int wipe() {
        int had = reader.length;
        reader.length = 0;
        return had;
    }

    public int assume(boolean denied) throws IllegalArgumentException, IllegalStateException {
        int root = reader.readFormula(denied, search.functions);
        if (root == NONE) {
            refusedAt = reader.wrongAt;
            throw new IllegalArgumentException();
        }
        if (reader.tree.rows[root] > MOST_ROWS || reader.tree.longest[root] > MOST_IN_ROW
                || reader.functions > MOST_MADE) {
            throw new IllegalStateException();
        }
        search.functions = reader.functions;
        reader.length = 0;
        refusedAt = NONE;
        return search.takeRows(reader.tree, root);
    }

    public int at() {
        return refusedAt;
    }

    public int state() {
        return search.standing();
    }

    public int step() throws IllegalStateException {
        if (search.standing() != OPEN) {
            throw new IllegalStateException();
        }
        return search.advance();
    }

    public int run(int n) throws IllegalArgumentException {
        if (n < 0 || n > MOST_STEPS) {
            throw new IllegalArgumentException();
        }
        int done = 0;
        while (done < n && search.standing() == OPEN) {
            search.advance();
            done++;
        }
        return done;
    }

    public int print(boolean line, int k) throws IndexOutOfBoundsException {
        int count = line ? lineCount : search.count;
        if (k < 0 || k >= count) {
            throw new IndexOutOfBoundsException();
        }
        printer.show(line ? lines[k] : search.kept[k].clause);
        return printer.length;
    }

    public char out(int i) throws IndexOutOfBoundsException {
        if (i < 0 || i >= printer.length) {
            throw new IndexOutOfBoundsException();
        }
        return printer.shown[i];
    }

    public int clause(int k, int what) throws IndexOutOfBoundsException, IllegalArgumentException {
        if (k < 0 || k >= search.count) {
            throw new IndexOutOfBoundsException();
        }
        Kept kept = search.kept[k];
        switch (what) {
            case 0: return kept.status;
            case 1: return kept.clause.literals;
            case 2: return kept.clause.weight;
            case 3: return kept.kind;
            case 4: return kept.first;
            case 5: return kept.firstLiteral;
            case 6: return kept.second;
            case 7: return kept.secondLiteral;
            default: throw new IllegalArgumentException();
        }
    }

    public boolean subsumes(int k, int m) throws IndexOutOfBoundsException {
        if (k < 0 || k >= search.count || m < 0 || m >= search.count) {
            throw new IndexOutOfBoundsException();
        }
        return search.matcher.covers(search.kept[k].clause, search.kept[m].clause);
    }

    public int proof() {
        return search.ancestors();
    }

    public int claim(int a, int i, int b, int j)
            throws IllegalArgumentException, IndexOutOfBoundsException, IllegalStateException {
        if (!reader.readClause(claimed)) {
            refusedAt = reader.wrongAt;
            throw new IllegalArgumentException();
        }
        if (!hasGround(a, i, b, j)) {
            throw new IndexOutOfBoundsException();
        }
        if (!claimed.fits() || lineCount >= MOST_LINES) {
            throw new IllegalStateException();
        }
        Clause ground = groundOf(a, i, b, j);
        reader.length = 0;
        refusedAt = NONE;
        if (ground == null || !search.matcher.covers(ground, claimed.body)) {
            return NONE;
        }
        lines[lineCount] = claimed.copy();
        lineCount++;
        return lineCount - 1;
    }

    public int figure(int what) throws IllegalArgumentException {
        switch (what) {
            case 0: return search.count;
            case 1: return search.countOf(WAITS);
            case 2: return search.countOf(ACTIVE);
            case 3: return search.steps;
            case 4: return search.leftOut;
            case 5: return search.trueOnes;
            case 6: return search.known;
            case 7: return search.functions;
            case 8: return lineCount;
            default: throw new IllegalArgumentException();
        }
    }

    private static int byteOf(long more, int k) {
        return (int) (more >>> (8 * k)) & 255;
    }

    /** Whether the row, or the lines and literals, that a claim names are there. */
    private boolean hasGround(int a, int i, int b, int j) {
        if (a == -1) {
            return i >= 0 && i < search.count && search.kept[i].kind == ROW;
        }
        if (b == -1) {
            return hasLiteral(a, i) && hasLiteral(a, j) && i != j;
        }
        return hasLiteral(a, i) && hasLiteral(b, j);
    }

    private boolean hasLiteral(int line, int i) {
        return line >= 0 && line < lineCount && i >= 0 && i < lines[line].literals;
    }

    /** The clause that must subsume a claim; null when it is not there, or can subsume no line. */
    private Clause groundOf(int a, int i, int b, int j) {
        if (a == -1) {
            return search.kept[i].clause;
        }
        boolean drawn = b == -1
                ? search.unifier.drawFactor(lines[a], i, j, search.draft)
                : search.unifier.drawResolvent(lines[a], i, lines[b], j, search.draft);
        return drawn && !search.draft.big ? search.draft.body : null;
    }

    /** Where the term, or literal, that begins at from ends, but not behind limit. */
    private static int endOf(int[] codes, int from, int limit) {
        int open = 1;
        int p = from;
        while (p < limit && open > 0) {
            open += (codes[p] & TERMS) - 1;
            p++;
        }
        return p;
    }

    /** Whether the count symbols from a on and those from b on are the same. */
    private static boolean sameSymbols(int[] codes, int a, int b, int count) {
        if (a + count > codes.length || b + count > codes.length) {
            return false;
        }
        for (int k = 0; k < count; k++) {
            if (codes[a + k] != codes[b + k]) {
                return false;
            }
        }
        return true;
    }

    /** Literals one after the other; each symbol stands before its terms. */
    private static final class Clause {
        final int[] codes;
        /** Where each literal begins, and where the last one ends. */
        final int[] starts;
        int literals;
        int weight;

        Clause(int mostSymbols, int mostLiterals) {
            codes = new int[mostSymbols];
            starts = new int[mostLiterals + 1];
        }
    }

    /** A clause that is kept, and where it comes from. */
    private static final class Kept {
        final Clause clause;
        int status;
        final int kind;
        final int first;
        final int firstLiteral;
        final int second;
        final int secondLiteral;

        Kept(Clause clause, int kind, int c, int i, int d, int j) {
            this.clause = clause;
            this.kind = kind;
            status = WAITS;
            first = c;
            firstLiteral = i;
            second = d;
            secondLiteral = j;
        }
    }

    /**
     * A clause while it is built, used again and again. Of one that has five literals, or one
     * heavier than a whole clause that fits, only this is known: it fits not, and subsumes no
     * clause that fits. So its symbols are not held.
     */
    private static final class Draft {
        final Clause body = new Clause((MOST_LITERALS + 1) * MOST_WEIGHT, MOST_LITERALS);
        private final int[] names = new int[MOST_VARIABLES];
        private int end;
        boolean big;

        void begin() {
            body.literals = 0;
            body.weight = 0;
            body.starts[0] = 0;
            end = 0;
            big = false;
        }

        void put(int code) {
            if (end - body.weight >= MOST_WEIGHT) {
                big = true;
            } else {
                body.codes[end] = code;
                end++;
            }
        }

        /** What was put since the latest literal becomes one, if it did not come before. */
        void closeLiteral() {
            if (cameBefore()) {
                end = body.weight;
            } else if (body.literals >= MOST_LITERALS) {
                big = true;
                end = body.weight;
            } else {
                body.literals++;
                body.starts[body.literals] = end;
                body.weight = end;
            }
        }

        void addLiteral(int[] codes, int from, int size) {
            if (size > MOST_WEIGHT) {
                big = true;
                return;
            }
            for (int k = 0; k < size; k++) {
                put(codes[from + k]);
            }
            closeLiteral();
        }

        private boolean cameBefore() {
            int size = end - body.weight;
            for (int l = 0; l < body.literals; l++) {
                int from = body.starts[l];
                if (body.starts[l + 1] - from == size
                        && sameSymbols(body.codes, from, body.weight, size)) {
                    return true;
                }
            }
            return false;
        }

        /** The variables get the names 0, 1, .. in the order in which they come. */
        void nameAnew() {
            int[] codes = body.codes;
            for (int p = 0; p < body.weight; p++) {
                if (codes[p] < FUNCTIONS) {
                    names[codes[p] >> NAME] = NONE;
                }
            }
            int used = 0;
            for (int p = 0; p < body.weight; p++) {
                if (codes[p] < FUNCTIONS) {
                    int old = codes[p] >> NAME;
                    if (names[old] == NONE) {
                        names[old] = used;
                        used++;
                    }
                    codes[p] = names[old] << NAME;
                }
            }
        }

        boolean fits() {
            return !big && body.weight <= MOST_WEIGHT;
        }

        boolean hasOpposites() {
            for (int l = 1; l < body.literals; l++) {
                for (int m = 0; m < l; m++) {
                    if (areOpposite(body.starts[l], body.starts[m], body.starts[l + 1])) {
                        return true;
                    }
                }
            }
            return false;
        }

        private boolean areOpposite(int p, int q, int end) {
            // the same first symbol but for the ~ has as many terms, so both end alike
            return (body.codes[p] ^ body.codes[q]) == DENIED
                    && sameSymbols(body.codes, p + 1, q + 1, end - p - 1);
        }

        Clause copy() {
            Clause made = new Clause(body.weight, body.literals);
            System.arraycopy(body.codes, 0, made.codes, 0, body.weight);
            System.arraycopy(body.starts, 0, made.starts, 0, body.literals + 1);
            made.literals = body.literals;
            made.weight = body.weight;
            return made;
        }
    }

    /** A formula made of literals, & and | alone: every ~ has gone down to the atoms. */
    private static final class Tree {
        private static final int LEAF = 0, BOTH = 1, EITHER = 2;
        /** A text with more atoms would need more than 160 characters for the & | > before them. */
        private static final int MOST_ATOMS = 80;

        private final int[] kind = new int[MOST_TEXT];
        /** Of a leaf: where its literal begins in the pool, and how many symbols it has. */
        private final int[] left = new int[MOST_TEXT];
        private final int[] right = new int[MOST_TEXT];
        /** How many rows a node has, and how many literals the longest one. */
        final int[] rows = new int[MOST_TEXT];
        final int[] longest = new int[MOST_TEXT];
        private int nodes;
        private final int[] pool = new int[MOST_ATOMS * MOST_WEIGHT];
        private int poolEnd;

        void begin() {
            nodes = 0;
            poolEnd = 0;
        }

        int addLeaf(int[] literal, int size) {
            int node = addNode(LEAF, poolEnd, size);
            if (node != NONE) {
                rows[node] = 1;
                longest[node] = 1;
                for (int k = 0; k < size && k < MOST_WEIGHT && poolEnd < pool.length; k++) {
                    pool[poolEnd] = literal[k];
                    poolEnd++;
                }
            }
            return node;
        }

        int addPair(boolean both, int first, int second) {
            int node = addNode(both ? BOTH : EITHER, first, second);
            if (node != NONE && both) {
                rows[node] = atMostTooMany(rows[first] + rows[second]);
                longest[node] = Math.max(longest[first], longest[second]);
            } else if (node != NONE) {
                rows[node] = atMostTooMany(rows[first] * rows[second]);
                longest[node] = longest[first] + longest[second];
            }
            return node;
        }

        private int addNode(int nodeKind, int first, int second) {
            if (nodes >= MOST_TEXT) {
                return NONE;
            }
            kind[nodes] = nodeKind;
            left[nodes] = first;
            right[nodes] = second;
            nodes++;
            return nodes - 1;
        }

        /** One row more than may be is as bad as many more, and products of such stay small. */
        private static int atMostTooMany(int count) {
            return Math.min(count, MOST_ROWS + 1);
        }

        /** Puts a row of the formula, made normal, into the draft. */
        void putRow(int root, int row, Draft draft) {
            draft.begin();
            putRowOf(root, row, draft, 0);
            draft.nameAnew();
        }

        private void putRowOf(int node, int row, Draft draft, int depth) {
            if (depth > MOST_OPERATORS) {
                return;
            }
            int first = left[node];
            int second = right[node];
            if (kind[node] == LEAF) {
                draft.addLiteral(pool, first, second);
            } else if (kind[node] == EITHER) {
                int many = Math.max(1, rows[second]);
                putRowOf(first, row / many, draft, depth + 1);
                putRowOf(second, row % many, draft, depth + 1);
            } else if (row < rows[first]) {
                putRowOf(first, row, draft, depth + 1);
            } else {
                putRowOf(second, row - rows[first], draft, depth + 1);
            }
        }
    }

    /** The text, and what it says as a formula or as a clause. */
    private static final class Reader {
        final char[] text = new char[MOST_TEXT];
        int length;
        final Tree tree = new Tree();
        int wrongAt;
        private int cursor;
        private boolean inClause;

        /** The ! and ? around the cursor: the variable's name, the symbol that it has become. */
        private final int[] boundNames = new int[MOST_OPERATORS];
        private final int[] boundCodes = new int[MOST_OPERATORS];
        private int bound;
        private int variables;
        int functions;

        /** The literal that is being read: its first symbols, and how many it has in all. */
        private final int[] literal = new int[MOST_WEIGHT];
        private int size;

        /** The root of the formula's tree; NONE, and wrongAt is set, when there is no formula. */
        int readFormula(boolean denied, int functionsBefore) {
            inClause = false;
            cursor = 0;
            wrongAt = NONE;
            tree.begin();
            bound = 0;
            variables = 0;
            functions = functionsBefore;
            int root = readPart(denied, 0);
            if (root != NONE && cursor < length) {
                return refuse(cursor);
            }
            return root;
        }

        /** Puts the text's clause, made normal, into the draft: whether there is a clause. */
        boolean readClause(Draft draft) {
            inClause = true;
            cursor = 0;
            wrongAt = NONE;
            draft.begin();
            if (look() == '0') {
                cursor++;
            } else {
                readLiterals(draft);
            }
            if (wrongAt == NONE && cursor < length) {
                refuse(cursor);
            }
            draft.nameAnew();
            return wrongAt == NONE;
        }

        /** The character at the cursor; 0, which no text has, at the text's end. */
        private char look() {
            return cursor < length ? text[cursor] : 0;
        }

        private int refuse(int place) {
            wrongAt = place;
            return NONE;
        }

        private int readPart(boolean denied, int depth) {
            char c = look();
            if (c >= 'A' && c <= 'Z') {
                readAtom(denied);
                return wrongAt == NONE ? tree.addLeaf(literal, size) : NONE;
            }
            if (depth >= MOST_OPERATORS) {
                return refuse(cursor);
            }
            switch (c) {
                case '~':
                    cursor++;
                    return readPart(!denied, depth + 1);
                case '&':
                case '|':
                case '>':
                    cursor++;
                    return readPair(c, denied, depth);
                case '!':
                case '?':
                    cursor++;
                    return readBound((c == '?') != denied, denied, depth);
                default:
                    return refuse(cursor);
            }
        }

        private int readPair(char c, boolean denied, int depth) {
            int first = readPart((c == '>') != denied, depth + 1);
            if (first == NONE) {
                return NONE;
            }
            int second = readPart(denied, depth + 1);
            if (second == NONE) {
                return NONE;
            }
            return tree.addPair((c == '&') != denied, first, second);
        }

        private int readBound(boolean asFunction, boolean denied, int depth) {
            int name = readName('x', 'z');
            if (name == NONE || bound >= MOST_OPERATORS) {
                return refuse(cursor);
            }
            boundNames[bound] = name;
            if (asFunction) {
                functions++;
                boundCodes[bound] = MADE + (functions << NAME) + variablesAround();
            } else {
                boundCodes[bound] = variables << NAME;
                variables++;
            }
            bound++;
            int node = readPart(denied, depth + 1);
            bound--;
            return node;
        }

        private int variablesAround() {
            int found = 0;
            for (int k = 0; k < bound; k++) {
                if (boundCodes[k] < FUNCTIONS) {
                    found++;
                }
            }
            return found;
        }

        private void readLiterals(Draft draft) {
            for (int n = 0; n < MOST_TEXT; n++) {
                boolean denied = look() == '~';
                if (denied) {
                    cursor++;
                }
                readAtom(denied);
                if (wrongAt != NONE) {
                    return;
                }
                draft.addLiteral(literal, 0, size);
                if (look() != '|') {
                    return;
                }
                cursor++;
            }
        }

        private void readAtom(boolean denied) {
            char c = look();
            size = 0;
            if (c < 'A' || c > 'Z') {
                refuse(cursor);
                return;
            }
            cursor++;
            put(ATOMS + (c - 'A') * 2 * DENIED + (denied ? DENIED : 0));
            if (look() == '(') {
                readTerms(0, 0);
            }
        }

        /** The terms in the bracket that opens at the cursor, of the literal's given symbol. */
        private void readTerms(int symbol, int brackets) {
            for (int n = 1; n <= MOST_TEXT; n++) {
                cursor++;
                readTerm(brackets);
                if (wrongAt != NONE) {
                    return;
                }
                char c = look();
                if (c == ')') {
                    cursor++;
                    if (symbol < MOST_WEIGHT) {
                        literal[symbol] += n;
                    }
                    return;
                }
                if (c != ',') {
                    refuse(cursor);
                    return;
                }
            }
        }

        private void readTerm(int brackets) {
            int letterAt = cursor;
            int variable = readName('x', 'z');
            if (variable != NONE) {
                putVariable(variable, letterAt);
                return;
            }
            int code = look() == '$' && inClause ? readMade() : readName('a', 'k');
            if (code == NONE) {
                refuse(cursor);
                return;
            }
            int symbol = size;
            put(FUNCTIONS + (code << NAME));
            if (look() == '(') {
                if (brackets >= MOST_BRACKETS) {
                    refuse(cursor);
                } else {
                    readTerms(symbol, brackets + 1);
                }
            }
        }

        /** A clause that fits has no literal of more symbols, so more are only counted. */
        private void put(int code) {
            if (size < MOST_WEIGHT) {
                literal[size] = code;
            }
            size++;
        }

        private void putVariable(int name, int letterAt) {
            if (inClause) {
                put(name << NAME);
                return;
            }
            int k = bound - 1;
            while (k >= 0 && boundNames[k] != name) {
                k--;
            }
            if (k < 0) {
                refuse(letterAt);
                return;
            }
            put(boundCodes[k]);
            if (boundCodes[k] >= FUNCTIONS) {
                for (int n = 0; n < k; n++) {
                    if (boundCodes[n] < FUNCTIONS) {
                        put(boundCodes[n]);
                    }
                }
            }
        }

        /** A number for a letter and perhaps a digit; NONE, nothing being read, if no letter. */
        private int readName(char from, char to) {
            char c = look();
            if (c < from || c > to) {
                return NONE;
            }
            cursor++;
            char digit = look();
            if (digit < '0' || digit > '9') {
                return (c - from) * NAMES_OF_LETTER;
            }
            cursor++;
            return (c - from) * NAMES_OF_LETTER + 1 + digit - '0';
        }

        /** The name of $ and a number; NONE, the cursor being where it goes wrong. */
        private int readMade() {
            cursor++;
            char tens = look();
            if (tens < '1' || tens > '9') {
                return NONE;
            }
            cursor++;
            int number = tens - '0';
            char ones = look();
            if (ones >= '0' && ones <= '9') {
                cursor++;
                number = number * 10 + ones - '0';
            }
            return MADE_NAMES + number;
        }
    }

    /** Makes literals alike, and draws factors and resolvents by that. */
    private static final class Unifier {
        /** The symbols of C, and from MOST_WEIGHT on those of D, its variables being others. */
        private final int[] work = new int[2 * MOST_WEIGHT];
        /** Of each variable the place in work of the term that is put for it, or NONE. */
        private final int[] terms = new int[2 * MOST_WEIGHT];

        boolean drawFactor(Clause c, int i, int j, Draft draft) {
            int p = c.starts[i];
            int q = c.starts[j];
            if (c.codes[p] != c.codes[q]) {
                return false;
            }
            load(c, 0);
            if (!areAlike(p, q, 0)) {
                return false;
            }
            draft.begin();
            putOthers(c, j, 0, draft);
            draft.nameAnew();
            return true;
        }

        boolean drawResolvent(Clause c, int i, Clause d, int j, Draft draft) {
            int p = c.starts[i];
            int q = d.starts[j];
            if ((c.codes[p] ^ d.codes[q]) != DENIED) {
                return false;
            }
            load(c, 0);
            load(d, MOST_WEIGHT);
            if (!areAlike(p, MOST_WEIGHT + q, 0)) {
                return false;
            }
            draft.begin();
            putOthers(c, i, 0, draft);
            putOthers(d, j, MOST_WEIGHT, draft);
            draft.nameAnew();
            return true;
        }

        private void load(Clause c, int from) {
            for (int p = 0; p < MOST_WEIGHT; p++) {
                terms[from + p] = NONE;
            }
            for (int p = 0; p < c.weight && p < MOST_WEIGHT; p++) {
                int code = c.codes[p];
                work[from + p] = code < FUNCTIONS ? code + (from << NAME) : code;
            }
        }

        private void putOthers(Clause c, int without, int from, Draft draft) {
            for (int l = 0; l < c.literals; l++) {
                if (l != without) {
                    putTerm(from + c.starts[l], draft, 0);
                    draft.closeLiteral();
                }
            }
        }

        /** Puts a term, or a literal, as it is now; of a draft that is big no more is asked. */
        private void putTerm(int place, Draft draft, int depth) {
            if (depth >= TOO_DEEP) {
                draft.big = true;
                return;
            }
            int p = settle(place);
            draft.put(work[p]);
            int count = work[p] & TERMS;
            int next = p + 1;
            for (int n = 0; n < count && !draft.big; n++) {
                putTerm(next, draft, depth + 1);
                next = endOf(work, next, work.length);
            }
        }

        /** The place of the term that is put for the variable at a place; else that place. */
        private int settle(int place) {
            int p = place;
            for (int n = 0; n < terms.length; n++) {
                if (work[p] >= FUNCTIONS || terms[work[p] >> NAME] == NONE) {
                    return p;
                }
                p = terms[work[p] >> NAME];
            }
            return p;
        }

        /** Makes two terms, or two literals but for their ~, alike: whether that can be done. */
        private boolean areAlike(int place, int other, int depth) {
            int a = settle(place);
            int b = settle(other);
            int p = work[a] < FUNCTIONS ? a : b;
            int q = p == a ? b : a;
            if (work[p] < FUNCTIONS) {
                if (work[p] == work[q]) {
                    return true;
                }
                if (hasVariable(work[p], q, 0)) {
                    return false;
                }
                terms[work[p] >> NAME] = q;
                return true;
            }
            boolean isLiteral = depth == 0;
            if (depth >= TOO_DEEP || work[p] != work[q] && !isLiteral) {
                return false;
            }
            int count = work[p] & TERMS;
            p++;
            q++;
            for (int n = 0; n < count; n++) {
                if (!areAlike(p, q, depth + 1)) {
                    return false;
                }
                p = endOf(work, p, work.length);
                q = endOf(work, q, work.length);
            }
            return true;
        }

        private boolean hasVariable(int variable, int place, int depth) {
            int p = settle(place);
            int count = work[p] & TERMS;
            int next = p + 1;
            for (int n = 0; n < count && depth < TOO_DEEP; n++) {
                if (hasVariable(variable, next, depth + 1)) {
                    return true;
                }
                next = endOf(work, next, work.length);
            }
            return work[p] == variable;
        }
    }

    /** Whether a clause subsumes another. */
    private static final class Matcher {
        private static final int MOST_BOUND = MOST_LITERALS * MOST_WEIGHT;
        /** Four literals are laid on four others in 4 * 4 * 4 * 4 ways, and fewer in fewer. */
        private static final int MOST_TRIES = 1000;

        /** Of each variable of C the place in D of the term that is put for it, or NONE. */
        private final int[] terms = new int[MOST_BOUND];
        /** The literal of C by which the term was put. */
        private final int[] since = new int[MOST_BOUND];
        /** The literal of D on which each literal of C lies. */
        private final int[] picked = new int[MOST_LITERALS];

        /** Both are normal, so a variable's number is below the clause's weight. */
        boolean covers(Clause c, Clause d) {
            if (c.literals > d.literals) {
                return false;
            }
            int literal = 0;
            picked[0] = NONE;
            forgetFrom(0, c);
            for (int n = 0; n < MOST_TRIES && literal >= 0; n++) {
                if (literal >= c.literals) {
                    return true;
                }
                picked[literal]++;
                if (picked[literal] >= d.literals) {
                    literal--;
                    forgetFrom(literal, c);
                } else if (liesOn(c, literal, d, picked[literal])) {
                    literal++;
                    if (literal < MOST_LITERALS) {
                        picked[literal] = NONE;
                    }
                } else {
                    forgetFrom(literal, c);
                }
            }
            return false;
        }

        private boolean liesOn(Clause c, int literal, Clause d, int m) {
            int spot = d.starts[m];
            int end = d.starts[m + 1];
            for (int p = c.starts[literal]; p < c.starts[literal + 1]; p++) {
                int code = c.codes[p];
                if (spot >= end) {
                    return false;
                }
                if (code >= FUNCTIONS) {
                    if (code != d.codes[spot]) {
                        return false;
                    }
                    spot++;
                } else {
                    int after = endOf(d.codes, spot, end);
                    int v = code >> NAME;
                    if (terms[v] == NONE) {
                        terms[v] = spot;
                        since[v] = literal;
                    } else if (!sameSymbols(d.codes, terms[v], spot, after - spot)) {
                        return false;
                    }
                    spot = after;
                }
            }
            return true;
        }

        /** Takes back the terms that were put by this literal or a later one. */
        private void forgetFrom(int literal, Clause c) {
            for (int v = 0; v < c.weight && v < MOST_BOUND; v++) {
                if (since[v] >= literal) {
                    terms[v] = NONE;
                }
            }
        }
    }

    /** The clauses that are kept, and the steps that draw new ones. */
    private static final class Search {
        final Kept[] kept = new Kept[MOST_CLAUSES];
        int count;
        int functions;
        int steps;
        int leftOut;
        int trueOnes;
        int known;
        private int empty = NONE;
        private boolean full;
        final Draft draft = new Draft();
        final Unifier unifier = new Unifier();
        final Matcher matcher = new Matcher();
        private final boolean[] marked = new boolean[MOST_CLAUSES];

        int standing() {
            if (empty != NONE) {
                return REFUTED;
            }
            if (full) {
                return FULL;
            }
            if (countOf(WAITS) > 0) {
                return OPEN;
            }
            return leftOut == 0 ? SATURATED : EXHAUSTED;
        }

        int countOf(int status) {
            int found = 0;
            for (int k = 0; k < count; k++) {
                if (kept[k].status == status) {
                    found++;
                }
            }
            return found;
        }

        /** Takes in the rows of the formula that was read: how many were kept. */
        int takeRows(Tree tree, int root) {
            int before = count;
            for (int r = 0; r < tree.rows[root] && !full; r++) {
                tree.putRow(root, r, draft);
                takeIn(ROW, NONE, NONE, NONE, NONE);
            }
            return count - before;
        }

        /** The clause in the draft is taken in; it is of this kind, by i of c and j of d. */
        private void takeIn(int kind, int c, int i, int d, int j) {
            if (!draft.fits()) {
                leftOut++;
            } else if (draft.hasOpposites()) {
                trueOnes++;
            } else if (isKnown()) {
                known++;
            } else if (count >= MOST_CLAUSES) {
                full = true;
            } else {
                kept[count] = new Kept(draft.copy(), kind, c, i, d, j);
                if (draft.body.literals == 0) {
                    empty = count;
                }
                count++;
            }
        }

        private boolean isKnown() {
            for (int k = 0; k < count; k++) {
                if (kept[k].status != GONE && matcher.covers(kept[k].clause, draft.body)) {
                    return true;
                }
            }
            return false;
        }

        /** A step; a clause waits. The number of the one that is given. */
        int advance() {
            int given = choose((steps + 1) % 4 == 0);
            if (given == NONE) {
                return NONE;
            }
            steps++;
            if (isCoveredByActive(given)) {
                kept[given].status = GONE;
                return given;
            }
            dropCovered(given);
            kept[given].status = ACTIVE;
            drawFactors(given);
            int before = count;
            for (int k = 0; k < before && !isOver(); k++) {
                if (kept[k].status == ACTIVE) {
                    drawResolvents(given, k);
                }
            }
            return given;
        }

        private boolean isOver() {
            return full || empty != NONE;
        }

        private int choose(boolean oldest) {
            int best = NONE;
            for (int k = 0; k < count; k++) {
                if (kept[k].status == WAITS && (best == NONE
                        || !oldest && kept[k].clause.weight < kept[best].clause.weight)) {
                    best = k;
                }
            }
            return best;
        }

        private boolean isCoveredByActive(int given) {
            for (int k = 0; k < count; k++) {
                if (kept[k].status == ACTIVE
                        && matcher.covers(kept[k].clause, kept[given].clause)) {
                    return true;
                }
            }
            return false;
        }

        private void dropCovered(int given) {
            for (int k = 0; k < count; k++) {
                if (kept[k].status == ACTIVE
                        && matcher.covers(kept[given].clause, kept[k].clause)) {
                    kept[k].status = GONE;
                }
            }
        }

        private void drawFactors(int given) {
            Clause c = kept[given].clause;
            for (int i = 0; i < c.literals; i++) {
                for (int j = i + 1; j < c.literals && !isOver(); j++) {
                    if (unifier.drawFactor(c, i, j, draft)) {
                        takeIn(FACTOR, given, i, given, j);
                    }
                }
            }
        }

        private void drawResolvents(int given, int other) {
            Clause c = kept[given].clause;
            Clause d = kept[other].clause;
            for (int i = 0; i < c.literals; i++) {
                for (int j = 0; j < d.literals && !isOver(); j++) {
                    if (unifier.drawResolvent(c, i, d, j, draft)) {
                        takeIn(RESOLVENT, given, i, other, j);
                    }
                }
            }
        }

        /** The clauses of which the empty one comes, itself too; they have lesser numbers. */
        int ancestors() {
            if (empty == NONE) {
                return NONE;
            }
            marked[empty] = true;
            int found = 0;
            for (int k = empty; k >= 0; k--) {
                if (marked[k]) {
                    found++;
                    marked[k] = false;
                    mark(kept[k].first);
                    mark(kept[k].second);
                }
            }
            return found;
        }

        private void mark(int k) {
            if (k >= 0 && k < count) {
                marked[k] = true;
            }
        }
    }

    /** The text of a clause. */
    private static final class Printer {
        /** 16 symbols of at most 3 characters with ( ) and , and the ~ and | are fewer. */
        final char[] shown = new char[128];
        int length;

        void show(Clause c) {
            length = 0;
            if (c.literals == 0) {
                put('0');
            }
            for (int l = 0; l < c.literals; l++) {
                if (l > 0) {
                    put('|');
                }
                showTerm(c.codes, c.starts[l], 0);
            }
        }

        private void showTerm(int[] codes, int place, int depth) {
            showName(codes[place]);
            int count = depth < TOO_DEEP ? codes[place] & TERMS : 0;
            int next = place + 1;
            for (int n = 0; n < count && next < codes.length; n++) {
                put(n == 0 ? '(' : ',');
                showTerm(codes, next, depth + 1);
                next = endOf(codes, next, codes.length);
            }
            if (count > 0) {
                put(')');
            }
        }

        private void showName(int code) {
            if (code >= ATOMS) {
                int name = (code - ATOMS) >> NAME;
                if (name % 2 == 1) {
                    put('~');
                }
                put((char) ('A' + name / 2));
            } else if (code >= MADE) {
                put('$');
                showNumber((code - MADE) >> NAME);
            } else if (code >= FUNCTIONS) {
                int name = (code - FUNCTIONS) >> NAME;
                put((char) ('a' + name / NAMES_OF_LETTER));
                if (name % NAMES_OF_LETTER > 0) {
                    showNumber(name % NAMES_OF_LETTER - 1);
                }
            } else {
                int name = code >> NAME;
                put((char) ('x' + name % 3));
                if (name >= 3) {
                    showNumber(name / 3);
                }
            }
        }

        private void showNumber(int number) {
            if (number >= 10) {
                put((char) ('0' + number / 10));
            }
            put((char) ('0' + number % 10));
        }

        private void put(char c) {
            if (length < shown.length) {
                shown[length] = c;
                length++;
            }
        }
    }
}
