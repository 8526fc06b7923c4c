/**
 * Looks whether a call is refused as it should be, and changes nothing but what at() tells: two
 * desks are made alike, one gets the refused call, and then both must show the same. Looking takes
 * calls, and takes the text, so each part of what is seen has two desks of its own.
 */
final class Refusal {
    private static final int CLAUSES_A_PART = 20;

    /** Makes a desk, every time by the same calls. */
    interface Maker {
        RefutationDesk make();
    }

    /** A call that is refused. */
    interface Act {
        long on(RefutationDesk desk);
    }

    /** A part of what can be seen of a desk. */
    private interface Part {
        String of(RefutationDesk desk);
    }

    private final Check check;
    private final Maker maker;
    private final String desk;

    Refusal(Check check, String desk, Maker maker) {
        this.check = check;
        this.desk = desk;
        this.maker = maker;
    }

    /** The call throws this, and at() tells what it told before. */
    void of(String call, Class<? extends RuntimeException> due, Act act) {
        of(call, due, maker.make().at(), act);
    }

    /** The call throws this, and at() tells the given place then. */
    void of(String call, Class<? extends RuntimeException> due, int at, Act act) {
        String what = desk + ", " + call;
        RefutationDesk refusing = maker.make();
        check.refuses(what, due, () -> act.on(refusing));
        check.same(what + ", at", refusing.at(), at);
        check.refuses(what + ", again", due, () -> act.on(refusing));
        check.same(what + ", at again", refusing.at(), at);
        same(what + ", OUT", act, Refusal::out);
        same(what + ", the text as a formula", act, Refusal::textAsFormula);
        same(what + ", the text as a clause", act, Refusal::textAsClause);
        same(what + ", figures", act, Refusal::figures);
        same(what + ", lines", act, Refusal::lines);
        same(what + ", steps to come", act, Refusal::stepsToCome);
        int count = maker.make().figure(0);
        for (int from = 0; from < count; from += CLAUSES_A_PART) {
            int first = from;
            int end = Math.min(from + CLAUSES_A_PART, count);
            same(what + ", clauses from " + from, act, seen -> clauses(seen, first, end));
        }
    }

    private void same(String what, Act act, Part part) {
        RefutationDesk touched = maker.make();
        Check.outcome(() -> act.on(touched));
        check.same(what, part.of(touched), part.of(maker.make()));
    }

    private static String out(RefutationDesk desk) {
        StringBuilder text = new StringBuilder();
        for (int i = 0; !isEnd(desk, i); i++) {
            text.append(desk.out(i));
        }
        return text.toString();
    }

    private static boolean isEnd(RefutationDesk desk, int i) {
        return Check.outcome(() -> desk.out(i)).equals("IndexOutOfBoundsException");
    }

    private static String textAsFormula(RefutationDesk desk) {
        String seen = desk.type(0) + " " + Check.outcome(() -> desk.assume(false));
        return seen + " " + desk.at() + " " + desk.figure(0) + " " + desk.figure(7) + " "
                + (desk.figure(0) == 0 ? "" : Check.clauseText(desk, desk.figure(0) - 1));
    }

    private static String textAsClause(RefutationDesk desk) {
        String seen = desk.type(0) + " " + Check.outcome(() -> desk.claim(-1, 0, 0, 0));
        return seen + " " + desk.at() + " " + desk.figure(8) + " "
                + (desk.figure(8) == 0 ? "" : Check.lineText(desk, desk.figure(8) - 1));
    }

    private static String figures(RefutationDesk desk) {
        StringBuilder seen = new StringBuilder(desk.state() + " " + desk.proof());
        for (int what = 0; what <= 8; what++) {
            seen.append(" ").append(desk.figure(what));
        }
        return seen.toString();
    }

    private static String lines(RefutationDesk desk) {
        StringBuilder seen = new StringBuilder();
        for (int k = 0; k < desk.figure(8); k++) {
            seen.append(" ").append(Check.lineText(desk, k));
        }
        return seen.toString();
    }

    /** A count of steps, or a mark, that cannot be seen otherwise shows in what is given next. */
    private static String stepsToCome(RefutationDesk desk) {
        StringBuilder seen = new StringBuilder();
        for (int n = 0; n < 5; n++) {
            seen.append(" ").append(Check.outcome(() -> desk.step()));
        }
        return seen.append(" ").append(figures(desk)).toString();
    }

    private static String clauses(RefutationDesk desk, int from, int end) {
        StringBuilder seen = new StringBuilder();
        for (int k = from; k < end; k++) {
            for (int what = 0; what <= 7; what++) {
                seen.append(" ").append(desk.clause(k, what));
            }
            seen.append(" ").append(Check.clauseText(desk, k));
        }
        return seen.toString();
    }
}
