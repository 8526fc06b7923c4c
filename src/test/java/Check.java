/** Counts the answers that are not as due, and says them; shared by all tests. */
final class Check {
    private int wrong = 0;
    private String about = "";

    /** A call of the desk that may throw. */
    interface Call {
        long answer();
    }

    /** The words of the document that the checks behind this call look at. */
    void words(String quoted) {
        about = "'" + quoted + "': ";
    }

    void same(String what, long got, long due) {
        same(what, Long.toString(got), Long.toString(due));
    }

    void same(String what, String got, String due) {
        if (!got.equals(due)) {
            wrong++;
            System.out.println(about + what + " answered " + got + ", due is " + due);
        }
    }

    void refuses(String what, Class<? extends RuntimeException> due, Call call) {
        same(what, outcome(call), due.getSimpleName());
    }

    /** The answer as text, or the name of the exception that was thrown. */
    static String outcome(Call call) {
        try {
            return Long.toString(call.answer());
        } catch (RuntimeException e) {
            return e.getClass().getSimpleName();
        }
    }

    /** Types a text, eight characters a call: how many the desk's text has then. */
    static int type(RefutationDesk desk, String text) {
        int length = desk.type(0);
        for (int from = 0; from < text.length(); from += 8) {
            length = desk.type(packed(text.substring(from, Math.min(from + 8, text.length()))));
        }
        return length;
    }

    static long packed(String part) {
        long more = 0;
        for (int k = part.length() - 1; k >= 0; k--) {
            more = more << 8 | part.charAt(k);
        }
        return more;
    }

    static int assume(RefutationDesk desk, String formula) {
        type(desk, formula);
        return desk.assume(false);
    }

    static int deny(RefutationDesk desk, String formula) {
        type(desk, formula);
        return desk.assume(true);
    }

    static int claim(RefutationDesk desk, String clause, int a, int i, int b, int j) {
        type(desk, clause);
        return desk.claim(a, i, b, j);
    }

    static String out(RefutationDesk desk, int length) {
        StringBuilder text = new StringBuilder();
        for (int i = 0; i < length; i++) {
            text.append(desk.out(i));
        }
        return text.toString();
    }

    static String clauseText(RefutationDesk desk, int k) {
        return out(desk, desk.print(false, k));
    }

    static String lineText(RefutationDesk desk, int k) {
        return out(desk, desk.print(true, k));
    }

    /** All that is kept, with blanks between. */
    static String clauses(RefutationDesk desk) {
        StringBuilder all = new StringBuilder();
        for (int k = 0; k < desk.figure(0); k++) {
            all.append(k == 0 ? "" : " ").append(clauseText(desk, k));
        }
        return all.toString();
    }

    /** The clauses that a formula becomes on a new desk. */
    static String rowsOf(String formula, boolean denied) {
        RefutationDesk desk = new RefutationDesk();
        type(desk, formula);
        desk.assume(denied);
        return clauses(desk);
    }

    static String repeat(String part, int times) {
        return part.repeat(times);
    }

    void end(String name) {
        System.out.println(name + ": " + (wrong == 0 ? "all as due" : wrong + " not as due"));
        if (wrong != 0) {
            System.exit(1);
        }
    }
}
