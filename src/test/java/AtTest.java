/** Promise 5: at, and AT of formulas and of clauses. */
public final class AtTest {
    private static final Check check = new Check();

    public static void main(String[] args) {
        formulas();
        depths();
        clauses();
        howLong();
        check.end("AtTest");
    }

    private static void formula(String text, int due) {
        for (boolean denied : new boolean[] {false, true}) {
            RefutationDesk desk = new RefutationDesk();
            Check.type(desk, text);
            check.refuses("assume " + text, IllegalArgumentException.class,
                    () -> desk.assume(denied));
            check.same("at of " + text, desk.at(), due);
            check.same("text of " + text, desk.wipe(), text.length());
            check.same("functions of " + text, desk.figure(7), 0);
        }
    }

    private static void clause(String text, int due) {
        RefutationDesk desk = new RefutationDesk();
        Check.assume(desk, "P");
        Check.type(desk, text);
        check.refuses("claim " + text, IllegalArgumentException.class,
                () -> desk.claim(-1, 0, 0, 0));
        check.same("at of " + text, desk.at(), due);
        check.same("text of " + text, desk.wipe(), text.length());
        check.same("lines of " + text, desk.figure(8), 0);
    }

    private static void formulas() {
        formula("", 0);
        formula("p", 0);
        formula("x", 0);
        formula("0", 0);
        formula("(P)", 0);
        formula("[", 0);
        formula("@", 0);
        formula("PQ", 1);
        formula("P1", 1);
        formula("P|Q", 1);
        formula("~", 1);
        formula("&P", 2);
        formula("&PQR", 3);
        formula("|PQ)", 3);
        formula(">~P", 3);
        formula("!P", 1);
        formula("!", 1);
        formula("!a", 1);
        formula("!w", 1);
        formula("!x", 2);
        formula("!x1", 3);
        formula("!x11P", 3);
        formula("!xx", 2);
        formula("?", 1);
        formula("?y9", 3);
        formula("P(", 2);
        formula("P()", 2);
        formula("P(,", 2);
        formula("P(a", 3);
        formula("P(a,", 4);
        formula("P(a,)", 4);
        formula("P(a;b)", 3);
        formula("P(ab)", 3);
        formula("P(a12)", 4);
        formula("P(a))", 4);
        formula("P(a(", 4);
        formula("P(a()", 4);
        formula("P(f(a)", 6);
        formula("P(f(a)(b))", 6);
        formula("P(l)", 2);
        formula("P(w)", 2);
        formula("P(Q)", 2);
        formula("P($1)", 2);
        formula("P(1)", 2);
        formula("!xP(x(a))", 5);
        formula("!xP(x00)", 4);
        formula("P(x)", 2);
        formula("P(f(a,z9))", 6);
        formula("!xP(y)", 4);
        formula("!xP(x1)", 4);
        formula("!x1P(x)", 5);
        formula("!x0P(x)", 5);
        formula("&!xP(x)Q(x)", 9);
        formula("|Q(x)!xP(x)", 3);
        formula("P(x", 2);
        formula("&P(y)#", 3);
        formula("!xP(x#", 5);
        formula("?x&P(x,a)P(y", 11);
    }

    private static void depths() {
        String atom = "P(" + "f(".repeat(14) + "a" + ")".repeat(14) + ")";
        RefutationDesk desk = new RefutationDesk();
        check.same("ten operators", Check.assume(desk, "~".repeat(10) + "P"), 1);
        check.same("fourteen brackets", Check.assume(desk, atom), 1);
        check.same("of all kinds", Check.assume(desk, "~!x&Q>Q|?y~!z|&QQQQ"), 1);
        formula("~".repeat(11) + "P", 10);
        formula("~".repeat(10) + "&PQ", 10);
        formula("~".repeat(10) + "!xP", 10);
        formula("&P" + "~".repeat(10) + "P", 11);
        formula("!x".repeat(10) + "?xP", 20);
        formula("&".repeat(11), 10);
        formula("|P".repeat(11), 20);
        formula(">".repeat(10) + "~", 10);
        formula(">P".repeat(10) + "~", 20);
        formula("P(" + "f(".repeat(15), 31);
        formula("P(a," + "f(".repeat(14) + "b(a)", 33);
        clause("P(" + "f(".repeat(15) + "a" + ")".repeat(16), 31);
        Check.type(desk, atom);
        check.same("fourteen in a clause", desk.claim(-1, 1, 0, 0), 0);
    }

    private static void clauses() {
        clause("", 0);
        clause("1", 0);
        clause("00", 1);
        clause("0|P", 1);
        clause("P|0", 2);
        clause("~", 1);
        clause("~0", 1);
        clause("~~P", 1);
        clause("p", 0);
        clause("&PQ", 0);
        clause("!xP(x)", 0);
        clause("|P", 0);
        clause("P|", 2);
        clause("P||Q", 2);
        clause("P|~", 3);
        clause("PQ", 1);
        clause("P(x", 3);
        clause("P()", 2);
        clause("P(x)Q", 4);
        clause("P(x01)", 4);
        clause("P(y(a))", 3);
        clause("P($)", 3);
        clause("P($", 3);
        clause("P($0)", 3);
        clause("P($a)", 3);
        clause("P($100)", 5);
        clause("P($991)", 5);
        clause("P($1", 4);
        clause("P($12(x)", 8);
        clause("P(x)|Q(w)", 7);
    }

    private static void howLong() {
        RefutationDesk desk = new RefutationDesk();
        check.same("none", desk.at(), -1);
        check.refuses("assume", IllegalArgumentException.class, () -> Check.assume(desk, "&P"));
        check.same("at", desk.at(), 2);
        desk.wipe();
        desk.type('P');
        check.same("type and wipe leave it", desk.at(), 2);
        check.refuses("no such row", IndexOutOfBoundsException.class,
                () -> desk.claim(-1, 0, 0, 0));
        check.same("another exception leaves it", desk.at(), 2);
        check.refuses("step", IllegalStateException.class, () -> desk.step());
        check.same("another call leaves it", desk.at(), 2);
        check.same("assume", desk.assume(false), 1);
        check.same("at", desk.at(), -1);
        check.refuses("claim", IllegalArgumentException.class,
                () -> Check.claim(desk, "P|", -1, 0, 0, 0));
        check.same("at", desk.at(), 2);
        check.refuses("the latest", IllegalArgumentException.class, () -> desk.assume(true));
        check.same("at", desk.at(), 1);
        desk.wipe();
        check.same("a claim that is not so", Check.claim(desk, "Q", -1, 0, 0, 0), -1);
        check.same("at", desk.at(), -1);
        check.refuses("claim", IllegalArgumentException.class, () -> desk.claim(-1, 0, 0, 0));
        check.same("at of no text", desk.at(), 0);
        check.same("a claim", Check.claim(desk, "P", -1, 0, 0, 0), 0);
        check.same("at", desk.at(), -1);
    }
}
