/** Promise 14: claim. */
public final class ClaimTest {
    private static final Check check = new Check();

    public static void main(String[] args) {
        rows();
        factors();
        resolvents();
        notThere();
        unfit();
        orderOfExceptions();
        heavyGround();
        madeAlike();
        grown();
        check.end("ClaimTest");
    }

    private static RefutationDesk desk(String... formulas) {
        RefutationDesk desk = new RefutationDesk();
        for (String formula : formulas) {
            Check.assume(desk, formula);
        }
        return desk;
    }

    private static void claims(RefutationDesk desk, String text, int a, int i, int b, int j,
            int due) {
        check.same("claim " + text + " " + a + " " + i + " " + b + " " + j,
                Check.outcome(() -> Check.claim(desk, text, a, i, b, j)), Integer.toString(due));
        check.same("the text is wiped", desk.wipe(), 0);
        if (due >= 0) {
            check.same("lines", desk.figure(8), due + 1);
        }
    }

    private static void rows() {
        RefutationDesk desk = desk("!x!y|P(x)Q(y)", "R");
        claims(desk, "P(x)|Q(y)", -1, 0, 9, -9, 0);
        claims(desk, "Q(z)|P(z1)", -1, 0, -1, 0, 1);
        check.same("made normal", Check.lineText(desk, 1), "Q(x)|P(y)");
        claims(desk, "P($1)|Q(x)|R|~S", -1, 0, 0, 0, 2);
        check.same("as it is written", Check.lineText(desk, 2), "P($1)|Q(x)|R|~S");
        claims(desk, "P(x)", -1, 0, 0, 0, -1);
        claims(desk, "0", -1, 1, 0, 0, -1);
        claims(desk, "R|R", -1, 1, 0, 0, 3);
        check.same("once", Check.lineText(desk, 3), "R");
        claims(desk, "R|~R", -1, 1, 0, 0, 4);
        claims(desk, "~R", -1, 1, 0, 0, -1);
        check.same("lines", desk.figure(8), 5);
        check.same("clauses", desk.figure(0), 2);

        RefutationDesk gone = desk("P(a)", "!xP(x)");
        gone.run(50);
        check.same("the first is gone", gone.clause(0, 0), 2);
        claims(gone, "P(a)", -1, 0, 0, 0, 0);

        RefutationDesk twoLiterals = desk("!x!y|P(x)P(y)");
        claims(twoLiterals, "P(a)", -1, 0, 0, 0, -1);
        claims(twoLiterals, "P(a)|P(a)", -1, 0, 0, 0, -1);
        claims(twoLiterals, "P(a)|P(b)", -1, 0, 0, 0, 0);
    }

    private static void factors() {
        RefutationDesk desk = desk("!x!y||P(x,a)P(b,y)~P(a,a)");
        claims(desk, "P(x,a)|P(b,y)|~P(a,a)", -1, 0, 0, 0, 0);
        claims(desk, "P(b,a)|~P(a,a)", 0, 0, -1, 1, 1);
        claims(desk, "P(b,a)|~P(a,a)", 0, 1, -1, 0, 2);
        claims(desk, "P(x,a)|~P(a,a)", 0, 0, -1, 1, -1);
        claims(desk, "P(b,a)|~P(a,a)", 0, 0, -1, 2, -1);
        claims(desk, "P(b,a)|~P(a,a)", 0, 2, -1, 1, -1);
        claims(desk, "~P(a,a)|Q|P(b,a)", 0, 1, -1, 0, 3);
        claims(desk, "0", 0, 1, -1, 0, -1);
        RefutationDesk apart = desk("|P(a)P(b)");
        claims(apart, "P(a)|P(b)", -1, 0, 0, 0, 0);
        claims(apart, "P(a)", 0, 0, -1, 1, -1);
        claims(apart, "P(a)|P(b)", 0, 0, -1, 1, -1);
    }

    private static void resolvents() {
        RefutationDesk desk = desk("!x>H(x)M(x)", "H(a)", "~M(a)");
        claims(desk, "~H(x)|M(x)", -1, 0, 0, 0, 0);
        claims(desk, "H(a)", -1, 1, 0, 0, 1);
        claims(desk, "~M(a)", -1, 2, 0, 0, 2);
        claims(desk, "M(a)", 0, 0, 1, 0, 3);
        claims(desk, "M(a)", 1, 0, 0, 0, 4);
        claims(desk, "M(x)", 0, 0, 1, 0, -1);
        claims(desk, "M(b)", 0, 0, 1, 0, -1);
        claims(desk, "0", 3, 0, 2, 0, 5);
        check.same("the empty line", Check.lineText(desk, 5), "0");
        claims(desk, "~H(a)", 0, 1, 2, 0, 6);
        claims(desk, "M(a)", 0, 1, 1, 0, -1);
        claims(desk, "0", 1, 0, 1, 0, -1);
        claims(desk, "0", 1, 0, 2, 0, -1);
        claims(desk, "~H(x)|M(x)", 0, 0, 0, 1, -1);
        claims(desk, "M(a)|~M(a)|H(a)", 0, 0, 1, 0, 7);
        check.same("the desk's clauses are not touched", desk.figure(0), 3);
        check.same("nor its state", desk.state(), RefutationDesk.OPEN);
        check.same("nor a proof", desk.proof(), RefutationDesk.NONE);
    }

    private static void refusesIndex(RefutationDesk desk, int a, int i, int b, int j) {
        String call = "claim " + a + " " + i + " " + b + " " + j;
        Check.type(desk, "P");
        int lines = desk.figure(8);
        check.refuses(call, IndexOutOfBoundsException.class, () -> desk.claim(a, i, b, j));
        check.same(call + ": lines", desk.figure(8), lines);
        check.same(call + ": text", desk.wipe(), 1);
    }

    private static void notThere() {
        RefutationDesk desk = desk("|PQ", "~P");
        check.same("the light one", desk.step(), 1);
        check.same("the heavy one", desk.step(), 0);
        check.same("a resolvent", desk.clause(2, 3), 2);
        refusesIndex(desk, -1, -1, 0, 0);
        refusesIndex(desk, -1, 2, 0, 0);
        refusesIndex(desk, -1, 3, 0, 0);
        refusesIndex(desk, -1, Integer.MAX_VALUE, 0, 0);
        refusesIndex(desk, 0, 0, 0, 0);
        claims(desk, "P|Q", -1, 0, 0, 0, 0);
        claims(desk, "~P", -1, 1, 0, 0, 1);
        refusesIndex(desk, -2, 0, 0, 0);
        refusesIndex(desk, 2, 0, 0, 0);
        refusesIndex(desk, 0, 2, 1, 0);
        refusesIndex(desk, 0, -1, 1, 0);
        refusesIndex(desk, 0, 0, 2, 0);
        refusesIndex(desk, 0, 0, -2, 0);
        refusesIndex(desk, 0, 0, 1, 1);
        refusesIndex(desk, 0, 0, 1, -1);
        refusesIndex(desk, 0, 0, -1, 0);
        refusesIndex(desk, 0, 1, -1, 1);
        refusesIndex(desk, 0, 0, -1, 2);
        refusesIndex(desk, 0, 2, -1, 0);
        refusesIndex(desk, 0, 0, -1, -1);
        refusesIndex(desk, 2, 0, -1, 1);
        refusesIndex(desk, -2, 0, -1, 1);
    }

    private static void unfit() {
        RefutationDesk desk = desk("P");
        String deep = "f(".repeat(13) + "a" + ")".repeat(13);
        claims(desk, "P|R(" + deep + ")", -1, 0, 0, 0, 0);
        check.same("weight 17", Check.outcome(
                () -> Check.claim(desk, "P|R(f(" + deep + "))", -1, 0, 0, 0)),
                "IllegalStateException");
        check.same("the text stays", desk.wipe(), 48);
        check.same("five literals", Check.outcome(
                () -> Check.claim(desk, "P|Q|R|S|T", -1, 0, 0, 0)), "IllegalStateException");
        desk.wipe();
        check.same("very heavy", Check.outcome(() -> Check.claim(desk,
                "P(" + "x,".repeat(78) + "x)", -1, 0, 0, 0)), "IllegalStateException");
        desk.wipe();
        claims(desk, "P" + "|P".repeat(79), -1, 0, 0, 0, 1);
        claims(desk, "P|Q|R|S|P", -1, 0, 0, 0, 2);
        claims(desk, "R(" + deep + ")|P|R(" + deep + ")", -1, 0, 0, 0, 3);
        for (int n = 4; n < 24; n++) {
            claims(desk, "P", -1, 0, 0, 0, n);
        }
        check.same("a 25th line", Check.outcome(() -> Check.claim(desk, "P", -1, 0, 0, 0)),
                "IllegalStateException");
        check.same("the text stays", desk.wipe(), 1);
        check.same("also if it were none", Check.outcome(
                () -> Check.claim(desk, "Q", -1, 0, 0, 0)), "IllegalStateException");
        check.same("lines", desk.figure(8), 24);
    }

    private static void orderOfExceptions() {
        RefutationDesk desk = desk("P");
        check.same("no clause", Check.outcome(() -> Check.claim(desk, "P|Q|R|S|T|", 5, 5, 5, 5)),
                "IllegalArgumentException");
        check.same("at", desk.at(), 10);
        desk.wipe();
        check.same("no line", Check.outcome(() -> Check.claim(desk, "P|Q|R|S|T", 5, 5, 5, 5)),
                "IndexOutOfBoundsException");
        desk.wipe();
        check.same("unfit", Check.outcome(() -> Check.claim(desk, "P|Q|R|S|T", -1, 0, 5, 5)),
                "IllegalStateException");
        check.same("at", desk.at(), 10);
    }

    /** The factor or resolvent that subsumes need not fit itself. */
    private static void heavyGround() {
        RefutationDesk desk = desk("!x!y||A(f(f(f(x))))A(f(f(f(y))))B", "!z|~BA(f(f(f(z))))");
        claims(desk, "A(f(f(f(x))))|A(f(f(f(y))))|B", -1, 0, 0, 0, 0);
        claims(desk, "~B|A(f(f(f(x))))|C", -1, 1, 0, 0, 1);
        claims(desk, "A(f(f(f(a))))|C|D|E", 0, 2, 1, 0, 2);
        claims(desk, "A(f(f(f(a))))|C|D", 0, 2, 1, 0, -1);
        claims(desk, "A(f(f(a)))|C|D|E", 0, 2, 1, 0, -1);
        RefutationDesk both = desk("!x!y!z!x1!y1!z1|PQ(x,y,z,x1,y1,z1)",
                "!x!y!z!x1!y1!z1|~PQ(x,y,z,x1,y1,z1)");
        claims(both, "P|Q(x,x1,x2,x3,x4,x5)|Q(y,y1,y2,y3,y4,y5)", -1, 0, 0, 0, 0);
        claims(both, "~P|Q(x,x1,x2,x3,x4,x5)|Q(y,y1,y2,y3,y4,y5)", -1, 1, 0, 0, 1);
        claims(both, "Q(a,a,a,a,a,a)|A|B|C", 0, 0, 1, 0, 2);
        claims(both, "Q(a,b,c,d,e,f)|A|Q(x,b,c,d,e,f)|C", 0, 0, 1, 0, 3);
        claims(both, "Q(a,a,a,a,a,a)|A|B", 0, 0, 1, 0, -1);
    }

    private static void madeAlike() {
        RefutationDesk desk = desk("!x!yP(x,y)", "!x!y|~P(x,y)Q(x,y)");
        claims(desk, "P(x,f(x))", -1, 0, 0, 0, 0);
        claims(desk, "~P(x,x)|Q(x,x)", -1, 1, 0, 0, 1);
        claims(desk, "Q(x,x)", 0, 0, 1, 0, -1);
        claims(desk, "~P(x,y)|Q(y,y)|Q(x,y)", -1, 1, 0, 0, 2);
        claims(desk, "Q(f(x),f(x))|Q(x,f(x))", 0, 0, 2, 0, 3);
        claims(desk, "Q(f(y),f(y))|Q(x,f(x))", 0, 0, 2, 0, -1);
        claims(desk, "~P(f(a),x)|Q(f(a),x)", -1, 1, 0, 0, 4);
        claims(desk, "Q(f(a),f(f(a)))", 0, 0, 4, 0, 5);
        claims(desk, "Q(f(a),x)", 0, 0, 4, 0, -1);
    }

    /** What is put for a variable may be far heavier than any clause that fits. */
    private static void grown() {
        RefutationDesk desk = desk("!x!y!z!x1P(x,y,z,x1)", "!x!y!z!x1|~P(x,y,z,x1)Q(x1)");
        claims(desk, "P(x,g(x,x,x),y,g(y,y,y))", -1, 0, 0, 0, 0);
        claims(desk, "~P(x,y,y,z)|Q(z)", -1, 1, 0, 0, 1);
        claims(desk, "Q(g(g(x,x,x),g(x,x,x),g(x,x,x)))", 0, 0, 1, 0, 2);
        claims(desk, "Q(g(g(x,x,x),g(x,x,x),g(x,x,y)))", 0, 0, 1, 0, -1);
        claims(desk, "P(x,g(x,x,x,x),y,g(y,y,y,y))", -1, 0, 0, 0, 3);
        claims(desk, "Q(g(x,x,x,x))", 3, 0, 1, 0, -1);
        claims(desk, "Q(g(y,x,x,x))|Q(x)", 3, 0, 1, 0, -1);
    }
}
