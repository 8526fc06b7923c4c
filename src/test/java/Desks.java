/** Desks that several tests begin with. */
final class Desks {
    private Desks() {
    }

    /** At most 121 clauses P(a), P(a0), .. that wait; it takes some four calls for five of them. */
    static RefutationDesk with(int clauses) {
        RefutationDesk desk = new RefutationDesk();
        StringBuilder text = new StringBuilder();
        int waiting = 0;
        for (int n = 0; n < clauses; n++) {
            text.insert(0, waiting == 0 ? "" : "&").append("P(").append(constant(n)).append(")");
            waiting++;
            if (waiting == 5 || n == clauses - 1) {
                Check.assume(desk, text.toString());
                text.setLength(0);
                waiting = 0;
            }
        }
        return desk;
    }

    static String constant(int n) {
        return (char) ('a' + n / 11) + (n % 11 == 0 ? "" : Integer.toString(n % 11 - 1));
    }

    /** P(x,z) when P(x,y) and P(y,z), and a chain of constants: each pair of them comes of it. */
    static RefutationDesk chain(int links) {
        RefutationDesk desk = new RefutationDesk();
        Check.assume(desk, "!x!y!z>&P(x,y)P(y,z)P(x,z)");
        for (int n = 0; n < links; n++) {
            Check.assume(desk, "P(" + constant(n) + "," + constant(n + 1) + ")");
        }
        return desk;
    }
}
