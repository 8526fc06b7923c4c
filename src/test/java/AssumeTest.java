/** Promise 4: assume. */
public final class AssumeTest {
    private static final Check check = new Check();

    public static void main(String[] args) {
        connectives();
        bound();
        functions();
        normal();
        takingIn();
        tooMuch();
        tooManyFunctions();
        full();
        check.end("AssumeTest");
    }

    private static void rows(String formula, String due) {
        check.same("rows of " + formula, Check.rowsOf(formula, false), due);
    }

    private static void rowsDenied(String formula, String due) {
        check.same("rows of " + formula + " denied", Check.rowsOf(formula, true), due);
    }

    private static void connectives() {
        rows("P", "P");
        rowsDenied("P", "~P");
        rows("~P", "~P");
        rowsDenied("~P", "P");
        rows("~~P", "P");
        rows("&PQ", "P Q");
        rowsDenied("&PQ", "~P|~Q");
        rows("|PQ", "P|Q");
        rowsDenied("|PQ", "~P ~Q");
        rows(">PQ", "~P|Q");
        rowsDenied(">PQ", "P ~Q");
        rows("|&PQ&RS", "P|R P|S Q|R Q|S");
        rows("&|PQ|RS", "P|Q R|S");
        rowsDenied("&|PQ|RS", "~P|~R ~P|~S ~Q|~R ~Q|~S");
        rows(">&PQR", "~P|~Q|R");
        rows(">|PQ&RS", "~P|R ~P|S ~Q|R ~Q|S");
        rows("~>P>QR", "P Q ~R");
        rows("||P&QRS", "P|Q|S P|R|S");
        rows("P(a,f(b0),k9(a,a))", "P(a,f(b0),k9(a,a))");
        rows("&P(a0)P(a)", "P(a0) P(a)");
        rows("&P&P(a)P(a,a)", "P P(a) P(a,a)");
    }

    private static void bound() {
        rows("!xP(x)", "P(x)");
        rowsDenied("!xP(x)", "~P($1)");
        rows("?xP(x)", "P($1)");
        rowsDenied("?xP(x)", "~P(x)");
        rows("~!xP(x)", "~P($1)");
        rows("!z7P(z7)", "P(x)");
        rows("|!xP(x)!xQ(x)", "P(x)|Q(y)");
        rows("!x|P(x)!xQ(x)", "P(x)|Q(y)");
        rows("!x|!xQ(x)P(x)", "Q(x)|P(y)");
        rows("!x!x1P(x,x1)", "P(x,y)");
        rows("!x!x0P(x0,x)", "P(x,y)");
        rows(">!xP(x)Q", "~P($1)|Q");
        rows(">?xP(x)Q", "~P(x)|Q");
    }

    private static void functions() {
        rows("!x?yP(x,y)", "P(x,$1(x))");
        rowsDenied("!x?yP(x,y)", "~P($1,x)");
        rows("?y!xP(x,y)", "P(x,$1)");
        rowsDenied("?y!xP(x,y)", "~P($1(x),x)");
        rows("!x?y!z?x1P(x,y,z,x1)", "P(x,$1(x),y,$2(x,y))");
        rows("!x!y?zP(z,y,x)", "P($1(x,y),y,x)");
        rows("!x!y?zP(z)", "P($1(x,y))");
        rows("!x!x?yP(x,y)", "P(x,$1(y,x))");
        rows("!x?x?xP(x)", "P($2(x))");
        rows("|?xP(x)?xQ(x)", "P($1)|Q($2)");
        rows("&?xP(x)?xQ(x)", "P($1) Q($2)");
        rows("|&PQ?xR(x)", "P|R($1) Q|R($1)");
        rows(">!xP(x)?yQ(y)", "~P($1)|Q($2)");
        rows("?x!y|P(x)?zQ(z,y)", "P($1)|Q($2(x),x)");
        RefutationDesk desk = new RefutationDesk();
        check.same("a function without use", Check.assume(desk, "?xP"), 1);
        check.same("it is made", desk.figure(7), 1);
        Check.assume(desk, "?xQ(x)");
        check.same("the next number", Check.clauseText(desk, 1), "Q($2)");
        Check.deny(desk, "?x!y!z?x1R(x,y,z,x1)");
        check.same("two more", Check.clauseText(desk, 2), "~R(x,$3(x),$4(x),y)");
    }

    private static void normal() {
        rows("|PP", "P");
        rows("||PQP", "P|Q");
        rows("!x!y!z|P(z,y)P(y,x)", "P(x,y)|P(y,z)");
        rows("!x|P(x)P(x)", "P(x)");
        rows("!x!y|P(x)P(y)", "P(x)|P(y)");
        rows("!x!y!z!x1!y1!z1!x2P(x,y,z,x1,y1,z1,x2)", "P(x,y,z,x1,y1,z1,x2)");
        rows("|||||||PPPPPPPP", "P");
    }

    private static void takingIn() {
        RefutationDesk desk = new RefutationDesk();
        check.same("three kept", Check.assume(desk, "&P&QR"), 3);
        check.same("known", Check.assume(desk, "|P(a)P"), 0);
        check.same("figure 6", desk.figure(6), 1);
        check.same("true", Check.assume(desk, "|~T|ST"), 0);
        check.same("figure 5", desk.figure(5), 1);
        check.same("known within a formula", Check.assume(desk, "&S|ST"), 1);
        check.same("figure 6", desk.figure(6), 2);
        check.same("five literals", Check.assume(desk, "||||ABCDE"), 0);
        check.same("left out", desk.figure(4), 1);
        check.same("five that are four", Check.assume(desk, "||||ABCDA"), 1);
        String deep = "f(".repeat(14) + "a" + ")".repeat(14);
        check.same("weight 16", Check.assume(desk, "F(" + deep + ")"), 1);
        check.same("as it was", Check.clauseText(desk, 5), "F(" + deep + ")");
        check.same("its weight", desk.clause(5, 2), 16);
        check.same("weight 17", Check.assume(desk, "|GF(" + deep + ")"), 0);
        check.same("left out, not known", desk.figure(4), 2);
        check.same("weight 17 of one literal", Check.assume(desk, "F(a," + deep + ")"), 0);
        check.same("left out", desk.figure(4), 3);
        check.same("left out though true", Check.assume(desk, "||||JKLM~J"), 0);
        check.same("left out", desk.figure(4), 4);
        check.same("true", desk.figure(5), 1);
        check.same("weight 18 by twice the same", Check.assume(desk,
                "|W(f(f(f(f(f(f(f(a))))))))W(f(f(f(f(f(f(f(a))))))))"), 1);
        check.same("variables become heavy", Check.assume(desk,
                "!x!y!z!x1!y1!z1!x2?y2|N(y2)N(y2,y2)"), 0);
        check.same("left out", desk.figure(4), 5);
        check.same("its function is made", desk.figure(7), 1);
        check.same("text", desk.wipe(), 0);
        check.same("eight very heavy ones", Check.assume(desk, "!x!y!z!x1!y1!z1?x2"
                + "|||A(x2,x2,a)B(x2,x2,a)|C(x2,x2,a)D(x2,x2,a)"
                + "||E(x2,x2,a)F(x2,x2,a)|G(x2,x2,a)H(x2,x2,a)"), 0);
        check.same("left out", desk.figure(4), 6);
        check.same("the seventeenth symbol has terms", Check.assume(desk,
                "P(" + "a,".repeat(15) + "f(b,c))"), 0);
        check.same("left out", desk.figure(4), 7);
        check.same("ten & in one another", Check.rowsOf("&&&&&&&&&&ABCDEFGHIJK", false),
                "A B C D E F G H I J K");
    }

    private static void tooMuch() {
        RefutationDesk desk = new RefutationDesk();
        String sixteen = "|&AB|&CD|&EF&GH";
        check.same("16 rows", Check.assume(desk, sixteen), 16);
        check.same("17 rows", Check.outcome(() -> Check.assume(desk, "&I" + sixteen)),
                "IllegalStateException");
        check.same("the text stays", desk.wipe(), 17);
        check.same("at", desk.at(), -1);
        check.same("denied it has four", Check.deny(desk, "&I" + sixteen), 4);
        check.same("the last", Check.clauseText(desk, 19), "~I|~G|~H");
        check.same("64 rows", Check.outcome(() -> Check.assume(desk, "|&J" + sixteen + "&KL")),
                "IllegalStateException");
        desk.wipe();
        check.same("256 rows", Check.outcome(() -> Check.deny(desk,
                "&&|AB&|CD|EF&|GH&|AB&|CD&|EF|GH")), "IllegalStateException");
        desk.wipe();
        check.same("8 literals", Check.assume(desk, "|||||||QRSTUVWX"), 0);
        check.same("are left out", desk.figure(4), 1);
        check.same("8 that are one", Check.assume(desk, "|||||||QQQQQQQQ"), 1);
        check.same("9 that are one", Check.outcome(() -> Check.assume(desk, "||||||||RRRRRRRRR")),
                "IllegalStateException");
        desk.wipe();
        check.same("9 in one row of two", Check.outcome(
                () -> Check.assume(desk, "&R||||||||RRRRRRRRR")), "IllegalStateException");
        check.same("nothing was kept", desk.figure(0), 21);
        check.same("nothing was known", desk.figure(6), 0);
        check.same("the text stays", desk.wipe(), 19);
        check.same("no formula comes first", Check.outcome(
                () -> Check.assume(desk, "||||||||RRRRRRRRRR")), "IllegalArgumentException");
        check.same("at", desk.at(), 17);
        check.same("too many rows leave at", Check.outcome(() -> {
            desk.wipe();
            return Check.assume(desk, "&I" + sixteen);
        }), "IllegalStateException");
        check.same("at", desk.at(), 17);
    }

    private static void tooManyFunctions() {
        RefutationDesk desk = new RefutationDesk();
        String ten = "?x".repeat(10) + "P(x)";
        for (int n = 1; n <= 9; n++) {
            check.same("ten functions more", Check.assume(desk, ten), 1);
            check.same("functions", desk.figure(7), 10 * n);
        }
        check.same("the last", Check.clauseText(desk, 8), "P($90)");
        check.same("100", Check.outcome(() -> Check.assume(desk, ten)), "IllegalStateException");
        check.same("none is made", desk.figure(7), 90);
        check.same("none is kept", desk.figure(0), 9);
        check.same("the text stays", desk.wipe(), 24);
        check.same("denied there are none", Check.deny(desk, ten), 1);
        check.same("99", Check.assume(desk, "?x".repeat(9) + "Q(x)"), 1);
        check.same("functions", desk.figure(7), 99);
        check.same("$99", Check.clauseText(desk, 10), "Q($99)");
        check.same("one more", Check.outcome(() -> Check.assume(desk, "?xR")),
                "IllegalStateException");
        desk.wipe();
        check.same("without one", Check.assume(desk, "!xR(x)"), 1);
        check.same("functions", desk.figure(7), 99);
    }

    private static void full() {
        RefutationDesk desk = Desks.with(98);
        check.same("not full", desk.state(), RefutationDesk.OPEN);
        check.same("two of four", Check.assume(desk, "&A&B&CA"), 2);
        check.same("kept", desk.figure(0), 100);
        check.same("full", desk.state(), RefutationDesk.FULL);
        check.same("the row behind is not known", desk.figure(6), 0);
        check.same("none any more", Check.assume(desk, "&A?x||||BCDEF(x)"), 0);
        check.same("functions all the same", desk.figure(7), 1);
        check.same("not known", desk.figure(6), 0);
        check.same("not left out", desk.figure(4), 0);
        check.same("the text is wiped", desk.wipe(), 0);
        check.refuses("still no formula", IllegalArgumentException.class,
                () -> Check.assume(desk, "&A"));

        RefutationDesk brim = Desks.with(100);
        check.same("100 are not full", brim.state(), RefutationDesk.OPEN);
        check.same("a known one", Check.assume(brim, "P(a)"), 0);
        check.same("still not full", brim.state(), RefutationDesk.OPEN);
        check.same("known", brim.figure(6), 1);
        check.same("a new one", Check.assume(brim, "A"), 0);
        check.same("full", brim.state(), RefutationDesk.FULL);
    }
}
