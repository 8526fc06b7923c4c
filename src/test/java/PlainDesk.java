import java.util.ArrayList;
import java.util.HashMap;
import java.util.LinkedHashMap;
import java.util.LinkedHashSet;
import java.util.List;
import java.util.Map;
import java.util.Objects;
import java.util.TreeSet;

/**
 * The document once more, word by word, with lists, maps and texts and without a thought for
 * room or speed: OracleTest lets it answer the same calls as RefutationDesk.
 */
final class PlainDesk {
    /** A variable has no terms and isVariable; an atom is a term whose name is a capital. */
    record Term(String name, boolean isVariable, List<Term> terms) {
        @Override
        public String toString() {
            if (terms.isEmpty()) {
                return name;
            }
            List<String> texts = new ArrayList<>();
            for (Term t : terms) {
                texts.add(t.toString());
            }
            return name + "(" + String.join(",", texts) + ")";
        }

        int weight() {
            int sum = 1;
            for (Term t : terms) {
                sum += t.weight();
            }
            return sum;
        }
    }

    record Literal(boolean denied, Term atom) {
        @Override
        public String toString() {
            return (denied ? "~" : "") + atom;
        }
    }

    static final class Kept {
        List<Literal> literals;
        int status = 0;
        int kind = 0;
        int c = -1;
        int i = -1;
        int d = -1;
        int j = -1;
    }

    static final class Wrong extends RuntimeException {
        private static final long serialVersionUID = 1;
        final int place;

        Wrong(int place) {
            this.place = place;
        }
    }

    private String text = "";
    private String out = "";
    private int at = -1;
    private final List<Kept> kept = new ArrayList<>();
    private final List<List<Literal>> lines = new ArrayList<>();
    private int steps;
    private int leftOut;
    private int trueOnes;
    private int known;
    private int made;
    private boolean full;

    // ---- the face

    int type(long more) {
        StringBuilder added = new StringBuilder();
        for (int k = 0; k < 64 && (more >>> k & 255) != 0; k += 8) {
            added.append((char) (more >>> k & 255));
        }
        for (char c : added.toString().toCharArray()) {
            if (c < 33 || c > 126) {
                throw new IllegalArgumentException();
            }
        }
        if (text.length() + added.length() > 160) {
            throw new UnsupportedOperationException();
        }
        text += added;
        return text.length();
    }

    int wipe() {
        int had = text.length();
        text = "";
        return had;
    }

    int assume(boolean denied) {
        int functions = made;
        List<List<Literal>> rows;
        try {
            position = 0;
            newVariables = 0;
            newFunctions = made;
            Node formula = parseFormula(new ArrayList<>(), denied, 0);
            if (position < text.length()) {
                throw new Wrong(position);
            }
            functions = newFunctions;
            if (formula.rowCount() > 16 || formula.longestRow() > 8 || functions > 99) {
                throw new IllegalStateException();
            }
            rows = formula.rows();
        } catch (Wrong w) {
            at = w.place;
            throw new IllegalArgumentException();
        }
        at = -1;
        text = "";
        made = functions;
        int before = kept.size();
        for (List<Literal> row : rows) {
            if (!full) {
                takeIn(row, 0, -1, -1, -1, -1);
            }
        }
        return kept.size() - before;
    }

    int at() {
        return at;
    }

    int state() {
        if (emptyOne() >= 0) {
            return 1;
        }
        if (full) {
            return 2;
        }
        if (numbers(0).size() > 0) {
            return 0;
        }
        return leftOut == 0 ? 3 : 4;
    }

    int step() {
        if (state() != 0) {
            throw new IllegalStateException();
        }
        steps++;
        List<Integer> waiting = numbers(0);
        int given = waiting.get(0);
        if (steps % 4 != 0) {
            for (int k : waiting) {
                if (weight(kept.get(k).literals) < weight(kept.get(given).literals)) {
                    given = k;
                }
            }
        }
        Kept g = kept.get(given);
        for (int k : numbers(1)) {
            if (subsumes(kept.get(k).literals, g.literals)) {
                g.status = 2;
                return given;
            }
        }
        for (int k : numbers(1)) {
            if (subsumes(g.literals, kept.get(k).literals)) {
                kept.get(k).status = 2;
            }
        }
        g.status = 1;
        draw(given, g);
        return given;
    }

    private void draw(int given, Kept g) {
        int n = g.literals.size();
        for (int i = 0; i < n; i++) {
            for (int j = i + 1; j < n; j++) {
                takeDrawn(factor(g.literals, i, j), 1, given, i, given, j);
            }
        }
        for (int other : numbers(1)) {
            List<Literal> d = kept.get(other).literals;
            for (int i = 0; i < n; i++) {
                for (int j = 0; j < d.size(); j++) {
                    takeDrawn(resolvent(g.literals, i, d, j), 2, given, i, other, j);
                }
            }
        }
    }

    private void takeDrawn(List<Literal> drawn, int kind, int c, int i, int d, int j) {
        if (drawn != null && !full && emptyOne() < 0) {
            takeIn(drawn, kind, c, i, d, j);
        }
    }

    int run(int n) {
        if (n < 0 || n > 50) {
            throw new IllegalArgumentException();
        }
        int done = 0;
        while (done < n && state() == 0) {
            step();
            done++;
        }
        return done;
    }

    int print(boolean line, int k) {
        if (k < 0 || k >= (line ? lines.size() : kept.size())) {
            throw new IndexOutOfBoundsException();
        }
        out = textOf(line ? lines.get(k) : kept.get(k).literals);
        return out.length();
    }

    static String textOf(List<Literal> clause) {
        List<String> texts = new ArrayList<>();
        for (Literal l : clause) {
            texts.add(l.toString());
        }
        return clause.isEmpty() ? "0" : String.join("|", texts);
    }

    char out(int i) {
        if (i < 0 || i >= out.length()) {
            throw new IndexOutOfBoundsException();
        }
        return out.charAt(i);
    }

    int clause(int k, int what) {
        if (k < 0 || k >= kept.size()) {
            throw new IndexOutOfBoundsException();
        }
        if (what < 0 || what > 7) {
            throw new IllegalArgumentException();
        }
        Kept c = kept.get(k);
        return new int[] {
            c.status, c.literals.size(), weight(c.literals), c.kind, c.c, c.i, c.d, c.j
        }[what];
    }

    boolean subsumes(int k, int m) {
        if (k < 0 || k >= kept.size() || m < 0 || m >= kept.size()) {
            throw new IndexOutOfBoundsException();
        }
        return subsumes(kept.get(k).literals, kept.get(m).literals);
    }

    int proof() {
        if (emptyOne() < 0) {
            return -1;
        }
        TreeSet<Integer> found = new TreeSet<>();
        collect(emptyOne(), found);
        return found.size();
    }

    private void collect(int k, TreeSet<Integer> found) {
        if (k >= 0 && found.add(k)) {
            collect(kept.get(k).c, found);
            collect(kept.get(k).d, found);
        }
    }

    int claim(int a, int i, int b, int j) {
        List<Literal> clause;
        try {
            clause = normal(parseClause());
        } catch (Wrong w) {
            at = w.place;
            throw new IllegalArgumentException();
        }
        List<Literal> ground = ground(a, i, b, j);
        if (!fits(clause) || lines.size() == 24) {
            throw new IllegalStateException();
        }
        at = -1;
        text = "";
        if (ground == null || !subsumes(ground, clause)) {
            return -1;
        }
        lines.add(clause);
        return lines.size() - 1;
    }

    /** What must subsume a claim, made normal; null when literals cannot be made alike. */
    List<Literal> ground(int a, int i, int b, int j) {
        if (a == -1) {
            if (i < 0 || i >= kept.size() || kept.get(i).kind != 0) {
                throw new IndexOutOfBoundsException();
            }
            return kept.get(i).literals;
        }
        List<Literal> drawn;
        if (b == -1) {
            needLiteral(a, i);
            needLiteral(a, j);
            if (i == j) {
                throw new IndexOutOfBoundsException();
            }
            drawn = factor(lines.get(a), i, j);
        } else {
            needLiteral(a, i);
            needLiteral(b, j);
            drawn = resolvent(lines.get(a), i, lines.get(b), j);
        }
        return drawn == null ? null : normal(drawn);
    }

    private void needLiteral(int line, int literal) {
        Objects.checkIndex(line, lines.size());
        Objects.checkIndex(literal, lines.get(line).size());
    }

    int figure(int what) {
        if (what < 0 || what > 8) {
            throw new IllegalArgumentException();
        }
        return new int[] {
            kept.size(), numbers(0).size(), numbers(1).size(), steps, leftOut, trueOnes, known,
            made, lines.size()
        }[what];
    }

    // ---- clauses

    private List<Integer> numbers(int status) {
        List<Integer> found = new ArrayList<>();
        for (int k = 0; k < kept.size(); k++) {
            if (kept.get(k).status == status) {
                found.add(k);
            }
        }
        return found;
    }

    private int emptyOne() {
        for (int k = 0; k < kept.size(); k++) {
            if (kept.get(k).literals.isEmpty()) {
                return k;
            }
        }
        return -1;
    }

    private void takeIn(List<Literal> raw, int kind, int c, int i, int d, int j) {
        List<Literal> clause = normal(raw);
        if (!fits(clause)) {
            leftOut++;
            return;
        }
        for (Literal l : clause) {
            if (clause.contains(new Literal(!l.denied, l.atom))) {
                trueOnes++;
                return;
            }
        }
        for (Kept k : kept) {
            if (k.status != 2 && subsumes(k.literals, clause)) {
                known++;
                return;
            }
        }
        if (kept.size() == 100) {
            full = true;
            return;
        }
        Kept made = new Kept();
        made.literals = clause;
        made.kind = kind;
        made.c = c;
        made.i = i;
        made.d = d;
        made.j = j;
        kept.add(made);
    }

    static int weight(List<Literal> clause) {
        int sum = 0;
        for (Literal l : clause) {
            sum += l.atom.weight();
        }
        return sum;
    }

    static boolean fits(List<Literal> clause) {
        return clause.size() <= 4 && weight(clause) <= 16;
    }

    static List<Literal> normal(List<Literal> clause) {
        List<Literal> distinct = new ArrayList<>(new LinkedHashSet<>(clause));
        Map<String, Term> names = new LinkedHashMap<>();
        for (Literal l : distinct) {
            collectVariables(l.atom, names);
        }
        return put(distinct, names);
    }

    private static void collectVariables(Term t, Map<String, Term> names) {
        if (t.isVariable && !names.containsKey(t.name)) {
            int n = names.size();
            String name = "xyz".substring(n % 3, n % 3 + 1) + (n < 3 ? "" : "" + n / 3);
            names.put(t.name, new Term(name, true, List.of()));
        }
        for (Term s : t.terms) {
            collectVariables(s, names);
        }
    }

    private static List<Literal> put(List<Literal> clause, Map<String, Term> terms) {
        List<Literal> made = new ArrayList<>();
        for (Literal l : clause) {
            made.add(new Literal(l.denied, putOnce(l.atom, terms)));
        }
        return made;
    }

    /** Puts the terms for the variables, once. */
    private static Term putOnce(Term t, Map<String, Term> terms) {
        if (t.isVariable) {
            return terms.getOrDefault(t.name, t);
        }
        List<Term> made = new ArrayList<>();
        for (Term s : t.terms) {
            made.add(putOnce(s, terms));
        }
        return new Term(t.name, false, made);
    }

    private static List<Literal> marked(List<Literal> clause, String mark) {
        Map<String, Term> names = new HashMap<>();
        for (int n = 0; n < 200; n++) {
            String name = "xyz".substring(n % 3, n % 3 + 1) + (n < 3 ? "" : "" + n / 3);
            names.put(name, new Term(name + mark, true, List.of()));
        }
        return put(clause, names);
    }

    /** The most general terms that make all pairs the same, by the rules of Martelli; or null. */
    static Map<String, Term> alike(Term a, Term b) {
        List<Term[]> pairs = new ArrayList<>();
        pairs.add(new Term[] {a, b});
        Map<String, Term> solved = new LinkedHashMap<>();
        while (!pairs.isEmpty()) {
            Term[] pair = pairs.remove(pairs.size() - 1);
            Term s = pair[0];
            Term t = pair[1];
            if (s.equals(t)) {
                continue;
            }
            if (!s.isVariable && t.isVariable) {
                Term other = s;
                s = t;
                t = other;
            }
            if (s.isVariable) {
                Map<String, Term> inside = new LinkedHashMap<>();
                collectVariables(t, inside);
                if (inside.containsKey(s.name)) {
                    return null;
                }
                Map<String, Term> one = Map.of(s.name, t);
                for (Term[] p : pairs) {
                    p[0] = putOnce(p[0], one);
                    p[1] = putOnce(p[1], one);
                }
                solved.replaceAll((name, term) -> putOnce(term, one));
                solved.put(s.name, t);
            } else if (s.name.equals(t.name) && s.terms.size() == t.terms.size()) {
                for (int n = 0; n < s.terms.size(); n++) {
                    pairs.add(new Term[] {s.terms.get(n), t.terms.get(n)});
                }
            } else {
                return null;
            }
        }
        return solved;
    }

    static List<Literal> factor(List<Literal> c, int i, int j) {
        if (c.get(i).denied != c.get(j).denied) {
            return null;
        }
        Map<String, Term> terms = alike(c.get(i).atom, c.get(j).atom);
        if (terms == null) {
            return null;
        }
        List<Literal> rest = new ArrayList<>(c);
        rest.remove(j);
        return put(rest, terms);
    }

    static List<Literal> resolvent(List<Literal> c, int i, List<Literal> d, int j) {
        if (c.get(i).denied == d.get(j).denied) {
            return null;
        }
        List<Literal> left = marked(c, "'");
        List<Literal> right = marked(d, "\"");
        Map<String, Term> terms = alike(left.get(i).atom, right.get(j).atom);
        if (terms == null) {
            return null;
        }
        left.remove(i);
        right.remove(j);
        left.addAll(right);
        return put(left, terms);
    }

    static boolean subsumes(List<Literal> c, List<Literal> d) {
        return c.size() <= d.size() && laid(c, 0, d, Map.of());
    }

    private static boolean laid(List<Literal> c, int n, List<Literal> d, Map<String, Term> terms) {
        if (n == c.size()) {
            return true;
        }
        for (Literal on : d) {
            Map<String, Term> more = new HashMap<>(terms);
            if (c.get(n).denied == on.denied && matched(c.get(n).atom, on.atom, more)
                    && laid(c, n + 1, d, more)) {
                return true;
            }
        }
        return false;
    }

    private static boolean matched(Term s, Term t, Map<String, Term> terms) {
        if (s.isVariable) {
            Term before = terms.putIfAbsent(s.name, t);
            return before == null || before.equals(t);
        }
        if (t.isVariable || !s.name.equals(t.name) || s.terms.size() != t.terms.size()) {
            return false;
        }
        for (int n = 0; n < s.terms.size(); n++) {
            if (!matched(s.terms.get(n), t.terms.get(n), terms)) {
                return false;
            }
        }
        return true;
    }

    // ---- the text

    private int position;
    private int newVariables;
    private int newFunctions;

    /** A formula whose denials are already in its literals. */
    private static final class Node {
        Literal literal;
        boolean both;
        Node first;
        Node second;

        long rowCount() {
            if (literal != null) {
                return 1;
            }
            long f = first.rowCount();
            long g = second.rowCount();
            return Math.min(1_000_000, both ? f + g : f * g);
        }

        int longestRow() {
            if (literal != null) {
                return 1;
            }
            int f = first.longestRow();
            int g = second.longestRow();
            return both ? Math.max(f, g) : f + g;
        }

        List<List<Literal>> rows() {
            List<List<Literal>> rows = new ArrayList<>();
            if (literal != null) {
                rows.add(List.of(literal));
            } else if (both) {
                rows.addAll(first.rows());
                rows.addAll(second.rows());
            } else {
                for (List<Literal> f : first.rows()) {
                    for (List<Literal> g : second.rows()) {
                        List<Literal> row = new ArrayList<>(f);
                        row.addAll(g);
                        rows.add(row);
                    }
                }
            }
            return rows;
        }
    }

    record Bound(String name, Term term) {
    }

    private char look() {
        return position < text.length() ? text.charAt(position) : ' ';
    }

    private boolean isOneOf(String characters) {
        return characters.indexOf(look()) >= 0;
    }

    private Node parseFormula(List<Bound> around, boolean denied, int depth) {
        Node node = new Node();
        if (isOneOf("ABCDEFGHIJKLMNOPQRSTUVWXYZ")) {
            node.literal = new Literal(denied, parseAtom(around));
            return node;
        }
        if (depth == 10 || !isOneOf("~&|>!?")) {
            throw new Wrong(position);
        }
        char c = look();
        position++;
        if (c == '~') {
            return parseFormula(around, !denied, depth + 1);
        }
        if (c == '!' || c == '?') {
            List<Bound> inside = new ArrayList<>(around);
            inside.add(bind(around, (c == '!') == denied));
            return parseFormula(inside, denied, depth + 1);
        }
        node.both = (c == '&') != denied;
        node.first = parseFormula(around, c == '>' ? !denied : denied, depth + 1);
        node.second = parseFormula(around, denied, depth + 1);
        return node;
    }

    private Bound bind(List<Bound> around, boolean asFunction) {
        if (!isOneOf("xyz")) {
            throw new Wrong(position);
        }
        String name = parseName();
        if (!asFunction) {
            newVariables++;
            return new Bound(name, new Term("v" + newVariables, true, List.of()));
        }
        newFunctions++;
        List<Term> terms = new ArrayList<>();
        for (Bound b : around) {
            if (b.term.isVariable) {
                terms.add(b.term);
            }
        }
        return new Bound(name, new Term("$" + newFunctions, false, terms));
    }

    private String parseName() {
        int from = position;
        position++;
        if (isOneOf("0123456789")) {
            position++;
        }
        return text.substring(from, position);
    }

    /** Without what is around, in a clause, it is null. */
    private Term parseAtom(List<Bound> around) {
        if (!isOneOf("ABCDEFGHIJKLMNOPQRSTUVWXYZ")) {
            throw new Wrong(position);
        }
        String name = String.valueOf(look());
        position++;
        return new Term(name, false, look() == '(' ? parseTerms(around, 0) : List.of());
    }

    private List<Term> parseTerms(List<Bound> around, int depth) {
        List<Term> terms = new ArrayList<>();
        do {
            position++;
            terms.add(parseTerm(around, depth));
        } while (look() == ',');
        if (look() != ')') {
            throw new Wrong(position);
        }
        position++;
        return terms;
    }

    private Term parseTerm(List<Bound> around, int depth) {
        int from = position;
        String name;
        if (isOneOf("xyz")) {
            name = parseName();
            if (around == null) {
                return new Term(name, true, List.of());
            }
            for (int k = around.size() - 1; k >= 0; k--) {
                if (around.get(k).name.equals(name)) {
                    return around.get(k).term;
                }
            }
            throw new Wrong(from);
        } else if (isOneOf("abcdefghijk")) {
            name = parseName();
        } else if (look() == '$' && around == null) {
            position++;
            if (!isOneOf("123456789")) {
                throw new Wrong(position);
            }
            name = "$" + parseName();
        } else {
            throw new Wrong(position);
        }
        if (look() != '(') {
            return new Term(name, false, List.of());
        }
        if (depth == 14) {
            throw new Wrong(position);
        }
        return new Term(name, false, parseTerms(around, depth + 1));
    }

    private List<Literal> parseClause() {
        List<Literal> literals = new ArrayList<>();
        position = 0;
        if (look() == '0') {
            position++;
        } else {
            position--;
            do {
                position++;
                boolean denied = look() == '~';
                if (denied) {
                    position++;
                }
                literals.add(new Literal(denied, parseAtom(null)));
            } while (look() == '|');
        }
        if (position < text.length()) {
            throw new Wrong(position);
        }
        return literals;
    }
}
