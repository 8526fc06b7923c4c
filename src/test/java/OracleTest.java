import java.util.List;
import java.util.Random;

/** The same calls, many of them, go to RefutationDesk and to PlainDesk; all answers must agree. */
public final class OracleTest {
    private static final int RUNS = 3000;

    private final Check check = new Check();
    private final Random random = new Random(20261115);
    private RefutationDesk desk;
    private PlainDesk plain;
    private StringBuilder trail;
    private Talk talk;

    /** How the texts of a run are made: the kinds of symbols lead to different ends. */
    private enum Talk { LETTERS, RELATION, MIXED, NESTED, CLAUSES, WIDE, MANY, LIMITS }

    public static void main(String[] args) {
        OracleTest test = new OracleTest();
        for (int run = 0; run < RUNS; run++) {
            test.oneRun(run);
        }
        test.check.end("OracleTest");
    }

    private void oneRun(int run) {
        desk = new RefutationDesk();
        plain = new PlainDesk();
        trail = new StringBuilder("run " + run + ":");
        talk = Talk.values()[run % Talk.values().length];
        for (int n = 0; n < 8 && talk == Talk.LIMITS; n++) {
            // so that some runs come to 99 functions
            type("?x".repeat(10) + "Q(x)");
            agree("assume", () -> desk.assume(false), () -> plain.assume(false));
        }
        int calls = 20 + random.nextInt(60);
        for (int n = 0; n < calls; n++) {
            oneCall();
        }
        compareAll();
    }

    private void agree(String what, Check.Call real, Check.Call due) {
        String answer = Check.outcome(real);
        String dueAnswer = Check.outcome(due);
        trail.append("\n  ").append(what).append(" -> ").append(answer);
        if (!answer.equals(dueAnswer)) {
            check.same(trail.toString(), answer, dueAnswer);
        }
    }

    private void type(String text) {
        for (int from = 0; from < text.length(); from += 8) {
            String part = text.substring(from, Math.min(from + 8, text.length()));
            long more = Check.packed(part);
            agree("type " + part, () -> desk.type(more), () -> plain.type(more));
        }
    }

    private void oneCall() {
        int what = random.nextInt(100);
        if (what < 26) {
            assume();
        } else if (what < 40) {
            agree("step", () -> desk.step(), () -> plain.step());
        } else if (what < 48) {
            int n = random.nextInt(talk == Talk.MANY ? 52 : 12) - 1;
            agree("run " + n, () -> desk.run(n), () -> plain.run(n));
        } else if (what < 58) {
            claimRow();
        } else if (what < 80) {
            claimDrawn();
        } else {
            look();
        }
        agree("at", () -> desk.at(), () -> plain.at());
        agree("state", () -> desk.state(), () -> plain.state());
    }

    private void assume() {
        boolean asClause = talk == Talk.CLAUSES || talk == Talk.WIDE || talk == Talk.MANY;
        type(spoiled(asClause ? closedClause() : talk == Talk.LIMITS ? nearLimits()
                : formula(1 + random.nextInt(6), "")));
        boolean denied = !asClause && random.nextBoolean();
        agree("assume " + denied, () -> desk.assume(denied), () -> plain.assume(denied));
        wipeSometimes();
    }

    private void claimRow() {
        int i = index(desk.figure(0));
        boolean isThere = i >= 0 && i < desk.figure(0);
        if (isThere) {
            agree("print " + i, () -> desk.print(false, i), () -> plain.print(false, i));
        }
        String ground = isThere ? Check.clauseText(desk, i) : literals("xyz");
        claim(ground, -1, i, index(3), index(3));
    }

    /** Looks for literals that can be made alike, so that many claims are right. */
    private void claimDrawn() {
        int count = desk.figure(8);
        for (int n = 0; n < 20 && count > 0; n++) {
            int a = random.nextInt(count);
            int b = random.nextInt(3) == 0 ? -1 : random.nextInt(count);
            int i = random.nextInt(4);
            int j = random.nextInt(4);
            try {
                List<PlainDesk.Literal> drawn = plain.ground(a, i, b, j);
                if (drawn != null) {
                    claim(PlainDesk.textOf(drawn), a, i, b, j);
                    return;
                }
            } catch (IndexOutOfBoundsException e) {
                continue;
            }
        }
        claim(literals("xyz"), index(count), index(2), random.nextInt(3) - 1, index(2));
    }

    private void claim(String ground, int a, int i, int b, int j) {
        type(spoiled(changed(ground)));
        agree("claim " + a + " " + i + " " + b + " " + j,
                () -> desk.claim(a, i, b, j), () -> plain.claim(a, i, b, j));
        wipeSometimes();
    }

    /** An instance, a clause with more or with other literals, or the same. */
    private String changed(String clause) {
        if (talk == Talk.LIMITS && random.nextInt(3) == 0) {
            return deepAtom("y1");
        }
        switch (random.nextInt(9)) {
            case 0: return clause.replace('x', 'a');
            case 1: return clause.replace('y', 'x');
            case 2: return clause.equals("0") ? literals("xyz") : clause + "|" + atom("xyz");
            case 3: return clause.equals("0") ? clause : clause + "|" + clause;
            case 4: return clause.replace('a', 'b');
            case 5: return clause.replace("x", "f(y)");
            default: return clause;
        }
    }

    private void wipeSometimes() {
        if (random.nextInt(8) != 0) {
            agree("wipe", () -> desk.wipe(), () -> plain.wipe());
        }
    }

    private void look() {
        int k = index(desk.figure(0));
        int m = index(desk.figure(0));
        int what = random.nextInt(11) - 1;
        boolean line = random.nextBoolean();
        int n = line ? index(desk.figure(8)) : k;
        int i = random.nextInt(30) - 1;
        agree("clause " + k + " " + what, () -> desk.clause(k, what), () -> plain.clause(k, what));
        agree("subsumes " + k + " " + m,
                () -> desk.subsumes(k, m) ? 1 : 0, () -> plain.subsumes(k, m) ? 1 : 0);
        agree("print " + line + " " + n, () -> desk.print(line, n), () -> plain.print(line, n));
        agree("out " + i, () -> desk.out(i), () -> plain.out(i));
        agree("proof", () -> desk.proof(), () -> plain.proof());
        agree("figure " + what, () -> desk.figure(what), () -> plain.figure(what));
    }

    private void compareAll() {
        for (int what = 0; what <= 8; what++) {
            int w = what;
            agree("figure " + w, () -> desk.figure(w), () -> plain.figure(w));
        }
        for (int k = 0; k < desk.figure(0); k++) {
            compareText(false, k);
            int n = k;
            for (int what = 0; what <= 7; what++) {
                int w = what;
                agree("clause " + n + " " + w, () -> desk.clause(n, w), () -> plain.clause(n, w));
            }
        }
        for (int k = 0; k < desk.figure(8); k++) {
            compareText(true, k);
        }
        agree("proof", () -> desk.proof(), () -> plain.proof());
    }

    private void compareText(boolean line, int k) {
        agree("print " + line + " " + k, () -> desk.print(line, k), () -> plain.print(line, k));
        int length = plain.print(line, k);
        for (int i = 0; i <= length; i++) {
            int place = i;
            agree("out " + i, () -> desk.out(place), () -> plain.out(place));
        }
    }

    /** Mostly one that is there, sometimes one just outside. */
    private int index(int count) {
        return random.nextInt(12) == 0 ? random.nextInt(count + 4) - 2
                : random.nextInt(Math.max(1, count));
    }

    private char pick(String letters) {
        return letters.charAt(random.nextInt(letters.length()));
    }

    private String formula(int depth, String bound) {
        if (depth == 0 || random.nextInt(5) == 0) {
            return atom(bound);
        }
        switch (random.nextInt(9)) {
            case 0: return "~" + formula(depth - 1, bound);
            case 1: return "&" + formula(depth - 1, bound) + formula(depth - 1, bound);
            case 2:
            case 3: return "|" + formula(depth - 1, bound) + formula(depth - 1, bound);
            case 4: return ">" + formula(depth - 1, bound) + formula(depth - 1, bound);
            default:
                char v = pick("xyz");
                return pick("!!?") + "" + v + formula(depth - 1, bound + v);
        }
    }

    /** A text with some more, or some fewer, of what the document limits than may be. */
    private String nearLimits() {
        switch (random.nextInt(5)) {
            case 0: return spread(6 + random.nextInt(10));
            case 1: return "~".repeat(8 + random.nextInt(4)) + pick("PQ");
            case 2: return "!x" + deepAtom("x");
            default:
                StringBuilder text = new StringBuilder();
                int count = 6 + random.nextInt(6);
                for (int n = 0; n < count; n++) {
                    text.append(pick("!??")).append(pick("xyz"));
                }
                return text + "" + pick("PQ") + (random.nextBoolean() ? "(x)" : "(y,z)");
        }
    }

    /** Atoms under & and |, so that there are some sixteen rows, or some of eight literals. */
    private String spread(int atoms) {
        if (atoms == 1) {
            return "" + pick("PQRSTU");
        }
        int first = 1 + random.nextInt(atoms - 1);
        return pick("&|>") + spread(first) + spread(atoms - first);
    }

    private String deepAtom(String innermost) {
        int count = 12 + random.nextInt(4);
        return "P(" + "f(".repeat(count) + innermost + ")".repeat(count) + ")";
    }

    /** A text that with others like it has very many consequences, none of them empty. */
    private String manyClause() {
        String fact = "P(" + term("", 0) + "," + term("", 0) + ")";
        switch (random.nextInt(4)) {
            case 0: return "!x!y!z>&P(x,y)P(y,z)P(x,z)";
            case 1: return "&" + fact + "P(" + term("", 0) + "," + term("", 0) + ")";
            default: return fact;
        }
    }

    private String closedClause() {
        if (talk == Talk.MANY) {
            return manyClause();
        }
        StringBuilder text = new StringBuilder("!x!y!z");
        int more = random.nextInt(4);
        text.append("|".repeat(more));
        for (int n = 0; n <= more; n++) {
            text.append(random.nextBoolean() ? "~" : "").append(atom("xyz"));
        }
        return text.toString();
    }

    private String literals(String variables) {
        StringBuilder text = new StringBuilder();
        int count = 1 + random.nextInt(5);
        for (int n = 0; n < count; n++) {
            text.append(n == 0 ? "" : "|").append(random.nextBoolean() ? "~" : "");
            text.append(atom(variables));
        }
        return text.toString();
    }

    private String atom(String variables) {
        if (talk == Talk.LETTERS || talk == Talk.LIMITS) {
            return "" + pick("PQRSTU");
        }
        char name = pick(talk == Talk.RELATION ? "P" : "PPQR");
        int count = name == 'R' ? 0 : name == 'Q' || random.nextInt(12) == 0 ? 1 : 2;
        if (talk == Talk.WIDE && name == 'P') {
            count = 3 + random.nextInt(2);
        }
        return name + terms(count, variables, talk == Talk.WIDE ? 1 : 2);
    }

    private String terms(int count, String variables, int depth) {
        StringBuilder text = new StringBuilder();
        for (int n = 0; n < count; n++) {
            text.append(n == 0 ? "(" : ",").append(term(variables, depth));
        }
        return text.append(count == 0 ? "" : ")").toString();
    }

    private String term(String variables, int depth) {
        if (!variables.isEmpty() && random.nextInt(3) != 0) {
            return "" + pick(variables);
        }
        if (depth == 0 || random.nextInt(2) == 0) {
            return pick(talk == Talk.MANY ? "abcdefghijk" : "ab")
                    + (random.nextInt(10) == 0 ? "1" : "");
        }
        if (random.nextInt(talk == Talk.NESTED || talk == Talk.WIDE ? 2 : 6) == 0) {
            return "g" + terms(2, variables, depth - 1);
        }
        return "f" + terms(1, variables, depth - 1);
    }

    /** Now and then a character is changed, left out or put in. */
    private String spoiled(String text) {
        if (random.nextInt(8) != 0) {
            return text;
        }
        int k = random.nextInt(text.length() + 1);
        char c = pick("~&|>!?xyzabfgPQR(),01$29#");
        switch (random.nextInt(3)) {
            case 0: return text.substring(0, k);
            case 1: return text.substring(0, k) + c + text.substring(k);
            default: return text.substring(0, k) + c + text.substring(Math.min(text.length(), k + 1));
        }
    }
}
