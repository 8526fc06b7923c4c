/** Desks that several tests begin with. */
final class Desks {
    private Desks() {
    }

    /** At most 121 clauses P(a), P(a0), .. that wait; it takes some four calls for five of them. */
    static RefutationDesk with(int clauses) {
        RefutationDesk desk = new RefutationDesk();
        StringBuilder text = new StringBuilder();
        int waiting = 0;
        for (int n = 0; n < clauses; n++) {
            text.insert(0, waiting == 0 ? "" : "&").append("P(").append(constant(n)).append(")");
            waiting++;
            if (waiting == 5 || n == clauses - 1) {
                Check.assume(desk, text.toString());
                text.setLength(0);
                waiting = 0;
            }
        }
        return desk;
    }

    static String constant(int n) {
        return (char) ('a' + n / 11) + (n % 11 == 0 ? "" : Integer.toString(n % 11 - 1));
    }

    /** P(x,z) when P(x,y) and P(y,z), and a chain of constants: each pair of them comes of it. */
    static RefutationDesk chain(int links) {
        RefutationDesk desk = new RefutationDesk();
        Check.assume(desk, "!x!y!z>&P(x,y)P(y,z)P(x,z)");
        for (int n = 0; n < links; n++) {
            Check.assume(desk, "P(" + constant(n) + "," + constant(n + 1) + ")");
        }
        return desk;
    }

    /** Open: rows, drawn clauses, functions, lines, OUT; and AT is 2. Four clauses are rows. */
    static RefutationDesk open() {
        RefutationDesk desk = new RefutationDesk();
        Check.assume(desk, "&!x>H(x)M(x)H(a)");
        Check.deny(desk, "&?xQ(x)M(a)");
        Check.assume(desk, "?xR(x,b)");
        Check.assume(desk, "&|P~P&H(a)||||ABCDE");
        desk.run(3);
        Check.claim(desk, "~H(x)|M(x)", -1, 0, 0, 0);
        Check.claim(desk, "H(a)", -1, 1, 0, 0);
        Check.claim(desk, "M(a)", 0, 0, 1, 0);
        return shown(desk);
    }

    /** As open(), but the empty clause is kept. */
    static RefutationDesk refuted() {
        RefutationDesk desk = open();
        Check.assume(desk, "&S~S");
        desk.run(50);
        return shown(desk);
    }

    /** None waits, and none was left out. */
    static RefutationDesk saturated() {
        RefutationDesk desk = new RefutationDesk();
        Check.assume(desk, "&H(a)?xQ(x)");
        desk.run(50);
        Check.claim(desk, "H(a)", -1, 0, 0, 0);
        return shown(desk);
    }

    /** None waits, and one was left out. */
    static RefutationDesk exhausted() {
        RefutationDesk desk = saturated();
        Check.assume(desk, "||||ABCDE");
        return shown(desk);
    }

    /** 100 clauses are kept, and there was one more. */
    static RefutationDesk full() {
        RefutationDesk desk = with(100);
        Check.claim(desk, "P(a)", -1, 0, 0, 0);
        Check.assume(desk, "H(a)");
        return shown(desk);
    }

    /** Clause 0 is H(a), and so are all of the 24 lines. */
    static RefutationDesk withAllLines() {
        RefutationDesk desk = new RefutationDesk();
        Check.assume(desk, "H(a)");
        for (int n = 0; n < 24; n++) {
            Check.claim(desk, "H(a)", -1, 0, 0, 0);
        }
        return shown(desk);
    }

    /** So many functions were made, at most 99; the clauses are P($10) and so on, and Q. */
    static RefutationDesk withFunctions(int functions) {
        RefutationDesk desk = new RefutationDesk();
        for (int n = 0; n < functions / 10; n++) {
            Check.assume(desk, "?x".repeat(10) + "P(x)");
        }
        Check.assume(desk, "?x".repeat(functions % 10) + "Q");
        return desk;
    }

    private static RefutationDesk shown(RefutationDesk desk) {
        desk.print(false, 0);
        Check.outcome(() -> Check.assume(desk, "&P"));
        desk.wipe();
        return desk;
    }

    static RefutationDesk typed(RefutationDesk desk, String text) {
        Check.type(desk, text);
        return desk;
    }
}
