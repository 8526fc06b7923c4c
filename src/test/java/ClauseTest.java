/** Promises 9 to 13: print, out, clause, subsumes and proof. */
public final class ClauseTest {
    private static final Check check = new Check();

    public static void main(String[] args) {
        printing();
        printingLines();
        what();
        subsumption();
        proofs();
        check.end("ClauseTest");
    }

    private static void prints(String formula, String due) {
        RefutationDesk desk = new RefutationDesk();
        Check.assume(desk, formula);
        check.same("length of " + due, desk.print(false, 0), due.length());
        check.same("text of " + due, Check.out(desk, due.length()), due);
        check.refuses("behind it", IndexOutOfBoundsException.class,
                () -> desk.out(due.length()));
    }

    private static void printing() {
        prints("P", "P");
        prints("~Z", "~Z");
        prints("||A~B(a)~C(b,c9)", "A|~B(a)|~C(b,c9)");
        prints("P(k0(a,k(b),c(d,e)),f)", "P(k0(a,k(b),c(d,e)),f)");
        prints("!x!y!z!x1!y1!z1!x2!y2!z2P(z2,y2,x2,z1,y1,x1,z,y,x)",
                "P(x,y,z,x1,y1,z1,x2,y2,z2)");
        prints("!x!y?zP(z,x,z)", "P($1(x,y),x,$1(x,y))");
        RefutationDesk desk = new RefutationDesk();
        Check.assume(desk, "?x".repeat(10) + "P(x,a)");
        check.same("$10", Check.clauseText(desk, 0), "P($10,a)");
        check.refuses("print -1", IndexOutOfBoundsException.class, () -> desk.print(false, -1));
        check.refuses("print 1", IndexOutOfBoundsException.class, () -> desk.print(false, 1));
        check.refuses("line 0", IndexOutOfBoundsException.class, () -> desk.print(true, 0));
        check.refuses("line -1", IndexOutOfBoundsException.class, () -> desk.print(true, -1));
        check.same("OUT stays", Check.out(desk, 8), "P($10,a)");
        check.refuses("out -1", IndexOutOfBoundsException.class, () -> desk.out(-1));
        check.refuses("out 8", IndexOutOfBoundsException.class, () -> desk.out(8));
        Check.deny(desk, "!xP(x,a)");
        check.same("other calls leave OUT", Check.out(desk, 8), "P($10,a)");
        check.same("a longer text", Check.clauseText(desk, 1), "~P($11,a)");
        Check.assume(desk, "Q");
        check.same("a shorter text", desk.print(false, 2), 1);
        check.refuses("nothing of the longer one", IndexOutOfBoundsException.class,
                () -> desk.out(1));
    }

    /** Fifteen variables go into a clause that fits, and no more. */
    private static void printingLines() {
        RefutationDesk desk = new RefutationDesk();
        Check.assume(desk, "&P!x!yP(x,y)");
        Check.claim(desk, "P|R(z,z1,z2,z3,z4,z5,z6,z7,z8,z9,y,x,x9,y8)", -1, 0, 0, 0);
        check.same("a line", Check.lineText(desk, 0), "P|R(x,y,z,x1,y1,z1,x2,y2,z2,x3,y3,z3,x4,y4)");
        check.same("a clause", Check.clauseText(desk, 1), "P(x,y)");
        Check.claim(desk, "P(y,$99(y9,y,$1(k9,$10)))", -1, 1, 0, 0);
        check.same("a line", Check.lineText(desk, 1), "P(x,$99(y,x,$1(k9,$10)))");
        check.refuses("line 2", IndexOutOfBoundsException.class, () -> desk.print(true, 2));
    }

    private static void what() {
        RefutationDesk desk = new RefutationDesk();
        Check.assume(desk, "!x!y||P(x)P(y)Q(f(x),a)");
        check.same("it waits", desk.clause(0, 0), 0);
        check.same("literals", desk.clause(0, 1), 3);
        check.same("weight", desk.clause(0, 2), 8);
        check.same("a row", desk.clause(0, 3), 0);
        for (int what = 4; what <= 7; what++) {
            check.same("of a row " + what, desk.clause(0, what), RefutationDesk.NONE);
        }
        desk.step();
        check.same("it is active", desk.clause(0, 0), 1);
        check.same("the factor", Check.clauseText(desk, 1), "P(x)|Q(f(x),a)");
        int[] factor = {0, 2, 6, 1, 0, 0, 0, 1};
        for (int what = 0; what <= 7; what++) {
            check.same("of the factor " + what, desk.clause(1, what), factor[what]);
        }
        check.same("given", desk.step(), 1);
        check.same("the first is gone", desk.clause(0, 0), 2);
        Check.deny(desk, "P(a)");
        check.same("given", desk.step(), 2);
        check.same("resolvent", Check.clauseText(desk, 3), "Q(f(a),a)");
        int[] resolvent = {0, 1, 4, 2, 2, 0, 1, 0};
        for (int what = 0; what <= 7; what++) {
            check.same("of the resolvent " + what, desk.clause(3, what), resolvent[what]);
        }
        check.refuses("what 8", IllegalArgumentException.class, () -> desk.clause(0, 8));
        check.refuses("what -1", IllegalArgumentException.class, () -> desk.clause(0, -1));
        check.refuses("clause -1", IndexOutOfBoundsException.class, () -> desk.clause(-1, 0));
        int behind = desk.figure(0);
        check.refuses("clause behind", IndexOutOfBoundsException.class,
                () -> desk.clause(behind, 0));
        check.refuses("both wrong", IndexOutOfBoundsException.class,
                () -> desk.clause(behind, 8));
    }

    private static void subsumes(String c, String d, boolean due) {
        RefutationDesk desk = new RefutationDesk();
        // the one that may be subsumed by the other comes first, so that both are kept
        Check.assume(desk, due ? d : c);
        Check.assume(desk, due ? c : d);
        check.same("kept of " + c + " and " + d, desk.figure(0), 2);
        int k = due ? 1 : 0;
        check.same(c + " subsumes " + d, isSubsumed(desk, k, 1 - k), due ? 1 : 0);
        check.same(c + " subsumes itself", isSubsumed(desk, k, k), 1);
    }

    private static void subsumption() {
        subsumes("!xP(x)", "P(a)", true);
        subsumes("!xP(x)", "P(f(g(a,b)))", true);
        subsumes("P(a)", "P(b)", false);
        subsumes("!xP(x)", "~P(a)", false);
        subsumes("!xP(x)", "P(a,b)", false);
        subsumes("!xP(f(x))", "P(f(b,a))", false);
        subsumes("!x!yP(x,y)", "!xP(x,x)", true);
        subsumes("!x!yP(y,f(x))", "!yP(f(y),f(y))", true);
        subsumes("!xP(f(x),x)", "!x!yP(f(x),y)", false);
        subsumes("!xP(x,x)", "P(f(a),f(b))", false);
        subsumes("!xP(x,x)", "P(f(a),f(a))", true);
        subsumes("!x!yP(x,y,x)", "!yP(y,a,y)", true);
        subsumes("P", "|QP", true);
        subsumes("|RP", "|QP", false);
        subsumes("!x!y|P(x)P(y)", "P(a)", false);
        subsumes("!x!y|P(x)P(y)", "|P(a)Q", true);
        subsumes("!x|P(x)Q(x)", "||P(a)P(b)Q(b)", true);
        subsumes("!x!y||P(x)Q(x,y)P(y)", "|||P(a)P(b)P(c)Q(b,c)", true);
        subsumes("!x!y!z|||P(x)P(y)P(z)Q(x,y,z)", "|||P(a)P(b)P(c)Q(c,a,b)", true);
        subsumes("!x!y!z|||P(x)P(y)P(z)Q(x,y,z)", "|||P(a)P(b)P(c)Q(c,a,d)", false);
        subsumes("!x|P(x)~P(f(x))", "||~P(f(b))P(a)~P(f(a))", true);
        subsumes("!xP(x,a)", "|P(b,c)P(d,a)", true);
        subsumes("!x!yP(x,a,y)", "||P(b,c,d)P(d,e,b)P(c,a,a)", true);
        subsumes("!x|P(x)Q(x)", "|Q(f(f(a)))P(a)", false);
        subsumes("!x|P(x)Q(x)", "|Q(f(f(a)))P(f(f(a)))", true);
        subsumes("!xP(x,x)", "P(a,f(a))", false);
        subsumes("!xP(x,x)", "P(f(a),a)", false);
        RefutationDesk desk = new RefutationDesk();
        Check.assume(desk, "&PQ");
        check.refuses("-1, 0", IndexOutOfBoundsException.class, () -> isSubsumed(desk, -1, 0));
        check.refuses("0, -1", IndexOutOfBoundsException.class, () -> isSubsumed(desk, 0, -1));
        check.refuses("2, 0", IndexOutOfBoundsException.class, () -> isSubsumed(desk, 2, 0));
        check.refuses("0, 2", IndexOutOfBoundsException.class, () -> isSubsumed(desk, 0, 2));
        check.same("P not Q", isSubsumed(desk, 0, 1), 0);
        Check.deny(desk, "P");
        desk.run(50);
        int empty = desk.figure(0) - 1;
        check.same("the empty one subsumes", isSubsumed(desk, empty, 1), 1);
        check.same("itself", isSubsumed(desk, empty, empty), 1);
        check.same("none subsumes it", isSubsumed(desk, 1, empty), 0);
    }

    private static long isSubsumed(RefutationDesk desk, int k, int m) {
        return desk.subsumes(k, m) ? 1 : 0;
    }

    private static void proofs() {
        RefutationDesk desk = new RefutationDesk();
        check.same("new", desk.proof(), RefutationDesk.NONE);
        Check.assume(desk, "&Q&R&P>PS");
        Check.deny(desk, "S");
        check.same("not yet", desk.proof(), RefutationDesk.NONE);
        desk.run(50);
        check.same("refuted", desk.state(), RefutationDesk.REFUTED);
        check.same("P, >PS, ~S, S or ~P, the empty one", desk.proof(), 5);
        check.same("again the same", desk.proof(), 5);

        RefutationDesk twice = new RefutationDesk();
        Check.assume(twice, "!x!y|P(x)P(y)");
        Check.deny(twice, "?x?y&P(x)P(y)");
        twice.run(50);
        check.same("refuted", twice.state(), RefutationDesk.REFUTED);
        check.same("two rows, two factors, the empty one", twice.proof(), 5);

        RefutationDesk shared = new RefutationDesk();
        Check.assume(shared, "&P&>PQ>PR");
        Check.deny(shared, "&QR");
        shared.run(50);
        check.same("refuted", shared.state(), RefutationDesk.REFUTED);
        check.same("P once", shared.proof(), 8);
    }
}
