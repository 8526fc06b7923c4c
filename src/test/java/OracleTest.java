import java.util.Random;

/** The same calls, many of them, go to RefutationDesk and to PlainDesk; all answers must agree. */
public final class OracleTest {
    private static final int RUNS = 1500;

    private final Check check = new Check();
    private final Random random = new Random(20261115);
    private RefutationDesk desk;
    private PlainDesk plain;
    private String trail;
    private int vocabulary;

    public static void main(String[] args) {
        OracleTest test = new OracleTest();
        for (int run = 0; run < RUNS; run++) {
            test.oneRun(run);
        }
        test.check.end("OracleTest");
    }

    private void oneRun(int run) {
        desk = new RefutationDesk();
        plain = new PlainDesk();
        trail = "run " + run + ":";
        vocabulary = run % 4;
        int calls = 20 + random.nextInt(60);
        for (int n = 0; n < calls; n++) {
            oneCall();
        }
        compareAll();
    }

    private void agree(String what, Check.Call real, Check.Call due) {
        String answer = Check.outcome(real);
        trail = trail + "\n  " + what + " -> " + answer;
        check.same(trail, answer, Check.outcome(due));
    }

    private void type(String text) {
        for (int from = 0; from < text.length(); from += 8) {
            long more = Check.packed(text.substring(from, Math.min(from + 8, text.length())));
            agree("type " + text, () -> desk.type(more), () -> plain.type(more));
        }
    }

    private void oneCall() {
        int what = random.nextInt(100);
        if (what < 30) {
            assume();
        } else if (what < 45) {
            agree("step", () -> desk.step(), () -> plain.step());
        } else if (what < 53) {
            int n = random.nextInt(12) - 1;
            agree("run " + n, () -> desk.run(n), () -> plain.run(n));
        } else if (what < 80) {
            claim();
        } else {
            look();
        }
        agree("at", () -> desk.at(), () -> plain.at());
        agree("state", () -> desk.state(), () -> plain.state());
    }

    private void assume() {
        type(spoiled(formula(1 + random.nextInt(6), "")));
        boolean denied = random.nextBoolean();
        agree("assume " + denied, () -> desk.assume(denied), () -> plain.assume(denied));
        wipeSometimes();
    }

    private void claim() {
        boolean byRow = random.nextInt(3) == 0;
        int a = byRow ? -1 : index(desk.figure(8));
        int i = byRow ? index(desk.figure(0)) : index(2);
        int b = random.nextInt(4) == 0 ? -1 : index(desk.figure(8));
        int j = index(2);
        type(spoiled(clauseText(byRow ? i : NOT_SAID)));
        agree("claim " + a + " " + i + " " + b + " " + j,
                () -> desk.claim(a, i, b, j), () -> plain.claim(a, i, b, j));
        wipeSometimes();
    }

    private static final int NOT_SAID = -5;

    private void wipeSometimes() {
        if (random.nextInt(8) != 0) {
            agree("wipe", () -> desk.wipe(), () -> plain.wipe());
        }
    }

    private void look() {
        int k = index(desk.figure(0));
        int m = index(desk.figure(0));
        int what = random.nextInt(11) - 1;
        boolean line = random.nextBoolean();
        int n = line ? index(desk.figure(8)) : k;
        int i = random.nextInt(30) - 1;
        agree("clause " + k + " " + what, () -> desk.clause(k, what), () -> plain.clause(k, what));
        agree("subsumes " + k + " " + m,
                () -> desk.subsumes(k, m) ? 1 : 0, () -> plain.subsumes(k, m) ? 1 : 0);
        agree("print " + line + " " + n, () -> desk.print(line, n), () -> plain.print(line, n));
        agree("out " + i, () -> desk.out(i), () -> plain.out(i));
        agree("proof", () -> desk.proof(), () -> plain.proof());
        agree("figure " + what, () -> desk.figure(what), () -> plain.figure(what));
    }

    private void compareAll() {
        for (int what = 0; what <= 8; what++) {
            int w = what;
            agree("figure " + w, () -> desk.figure(w), () -> plain.figure(w));
        }
        for (int k = 0; k < desk.figure(0); k++) {
            int n = k;
            agree("print " + n, () -> desk.print(false, n), () -> plain.print(false, n));
            for (int i = 0; i < 130; i++) {
                int at = i;
                if (!Check.outcome(() -> desk.out(at)).equals(Check.outcome(() -> plain.out(at)))) {
                    agree("out " + at, () -> desk.out(at), () -> plain.out(at));
                }
            }
            for (int what = 0; what <= 7; what++) {
                int w = what;
                agree("clause " + n + " " + w, () -> desk.clause(n, w), () -> plain.clause(n, w));
            }
        }
        for (int k = 0; k < desk.figure(8); k++) {
            int n = k;
            agree("print line " + n, () -> desk.print(true, n), () -> plain.print(true, n));
        }
        agree("proof", () -> desk.proof(), () -> plain.proof());
    }

    /** Mostly one that is there, sometimes one just outside. */
    private int index(int count) {
        return random.nextInt(12) == 0 ? random.nextInt(count + 4) - 2
                : random.nextInt(Math.max(1, count));
    }

    private String formula(int depth, String bound) {
        if (depth == 0 || random.nextInt(5) == 0) {
            return atom(bound);
        }
        switch (random.nextInt(9)) {
            case 0: return "~" + formula(depth - 1, bound);
            case 1: return "&" + formula(depth - 1, bound) + formula(depth - 1, bound);
            case 2:
            case 3: return "|" + formula(depth - 1, bound) + formula(depth - 1, bound);
            case 4: return ">" + formula(depth - 1, bound) + formula(depth - 1, bound);
            default:
                char v = pick("xyz");
                return pick("!!?") + "" + v + formula(depth - 1, bound + v);
        }
    }

    private char pick(String letters) {
        return letters.charAt(random.nextInt(letters.length()));
    }

    private String atom(String variables) {
        if (vocabulary == 0) {
            return "" + pick("PQRSTU");
        }
        char name = pick(vocabulary == 1 ? "P" : "PPQR");
        if (name == 'R') {
            return "R";
        }
        if (name == 'Q' || random.nextInt(12) == 0) {
            return name + "(" + term(variables, 2) + ")";
        }
        return name + "(" + term(variables, 2) + "," + term(variables, 2) + ")";
    }

    private String term(String variables, int depth) {
        if (!variables.isEmpty() && random.nextInt(3) != 0) {
            return "" + pick(variables);
        }
        if (depth == 0 || random.nextInt(2) == 0) {
            return pick("ab") + (random.nextInt(10) == 0 ? "1" : "");
        }
        if (random.nextInt(vocabulary == 3 ? 2 : 6) == 0) {
            return "g(" + term(variables, depth - 1) + "," + term(variables, depth - 1) + ")";
        }
        return "f(" + term(variables, depth - 1) + ")";
    }

    /** A clause that is likely to be subsumed: one that is there, an instance of it, or another. */
    private String clauseText(int row) {
        int kind = random.nextInt(8);
        if (kind == 0) {
            return "0";
        }
        int count = desk.figure(0);
        if (kind < 7 && count > 0) {
            int k = row >= 0 && row < count && kind < 6 ? row : random.nextInt(count);
            String text = Check.clauseText(desk, k);
            plain.print(false, k);
            if (kind == 5) {
                text = text.replace('x', 'a');
            } else if (kind == 6) {
                text = text + "|" + atom("xyz");
            } else if (kind == 4) {
                text = text.replace('y', 'x');
            }
            return text;
        }
        StringBuilder text = new StringBuilder();
        int literals = 1 + random.nextInt(5);
        for (int n = 0; n < literals; n++) {
            text.append(n == 0 ? "" : "|").append(random.nextBoolean() ? "~" : "");
            text.append(atom("xyz"));
        }
        return text.toString();
    }

    /** Now and then a character is changed, left out or put in. */
    private String spoiled(String text) {
        if (random.nextInt(6) != 0) {
            return text;
        }
        int k = random.nextInt(text.length() + 1);
        char c = pick("~&|>!?xyzabfgPQR(),01$29#");
        switch (random.nextInt(3)) {
            case 0: return text.substring(0, k);
            case 1: return text.substring(0, k) + c + text.substring(k);
            default: return text.substring(0, k) + c + text.substring(Math.min(text.length(), k + 1));
        }
    }
}
