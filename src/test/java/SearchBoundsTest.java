/** The bounds of clauses, of taking in, of steps and of states, as the document's 'Terms' say. */
public final class SearchBoundsTest {
    private static final Check check = new Check();

    public static void main(String[] args) {
        rowsOfPairs();
        newFunctions();
        literalThatCameBefore();
        namesOfVariables();
        fourLiterals();
        weightSixteen();
        drawnFits();
        alike();
        variablesOfBoth();
        noMoreLiterals();
        factorsSigns();
        leftOutComesFirst();
        trueComesBeforeKnown();
        knownComesBeforeFull();
        hundredClauses();
        fourthStep();
        leastWeight();
        goneAtOnce();
        activeOnesGo();
        itselfToo();
        overByTheEmptyOne();
        overByFull();
        refutedOrFull();
        openOrNot();
        check.end("SearchBoundsTest");
    }

    private static RefutationDesk desk(String... formulas) {
        RefutationDesk desk = new RefutationDesk();
        for (String formula : formulas) {
            Check.assume(desk, formula);
        }
        return desk;
    }

    private static void row(String formula, String due) {
        check.same("rows of " + formula, Check.rowsOf(formula, false), due);
    }

    private static void denied(String formula, String due) {
        check.same("rows of " + formula + " denied", Check.rowsOf(formula, true), due);
    }

    private static void rowsOfPairs() {
        check.words("for each row of F, for each of G:"
                + " the literals of the first, then of the second");
        row("|&AB&CD", "A|C A|D B|C B|D");
        row("|A&BC", "A|B A|C");
        row("|&ABC", "A|C B|C");
        row("|&AB&C&DE", "A|C A|D A|E B|C B|D B|E");
        row("|&A&BC&DE", "A|D A|E B|D B|E C|D C|E");
        denied("&|AB|CD", "~A|~C ~A|~D ~B|~C ~B|~D");
        row(">|AB&CD", "~A|C ~A|D ~B|C ~B|D");
        denied(">&AB|CD", "A B ~C ~D");
        check.words("Of ~F: those of F denied; denied those of F.");
        row("~A", "~A");
        denied("~A", "A");
        row("~~A", "A");
        denied("~~A", "~A");
        row("~|A~B", "~A B");
    }

    private static void newFunctions() {
        check.words("1 more than were made before"
                + " (they are made in the order in which their ! and ? stand)");
        row("&?xP(x)?xQ(x)", "P($1) Q($2)");
        row(">!xP(x)?xQ(x)", "~P($1)|Q($2)");
        row("?x&?yP(x,y)?yQ(x,y)", "P($1,$2) Q($1,$3)");
        row("&!x?yP(x,y)~!yQ(y)", "P(x,$1(x)) ~Q($2)");
        denied("?x!yP(x,y)", "~P(x,$1(x))");
        denied("!x?yP(x,y)", "~P($1,x)");
        RefutationDesk desk = desk("?xP(x)", "!xP(x)", "?xQ(x)");
        check.same("over several texts", Check.clauses(desk), "P($1) P(x) Q($2)");
        check.words("the ! and ? around it have become, the outermost first");
        row("?xP(x)", "P($1)");
        row("!x?yP(y,x)", "P($1(x),x)");
        row("!x!y?zP(z,y,x)", "P($1(x,y),y,x)");
        row("!x?y!z?x1P(x1,y,z)", "P($2(x,y),$1(x),y)");
        row("?x?yP(x,y)", "P($1,$2)");
        row("!x&?yP(y)?yQ(y)", "P($1(x)) Q($2(x))");
        row("&!xP(x)?yQ(y)", "P(x) Q($1)");
        row("!x".repeat(9) + "?yP(y)", "P($1(x,y,z,x1,y1,z1,x2,y2,z2))");
        check.words("or there would be more than 99 new functions");
        RefutationDesk most = Desks.withFunctions(98);
        check.same("98", most.figure(7), 98);
        check.same("one more", Check.assume(most, "!x?yR(y)"), 1);
        check.same("the last", Check.clauseText(most, most.figure(0) - 1), "R($99(x))");
        check.refuses("100", IllegalStateException.class, () -> Check.assume(most, "?xS"));
        check.same("99", most.figure(7), 99);
    }

    private static void literalThatCameBefore() {
        check.words("a literal that came before is left out");
        row("|PP", "P");
        row("||PQP", "P|Q");
        row("||QPP", "Q|P");
        row("|||||||PQPQPQPQ", "P|Q");
        row("|P|P|P|P|P|P|PQ", "P|Q");
        row("|P|P|P|P|P|P|P&QR", "P|Q P|R");
        row("|||||||&PQRRRRRRR", "P|R Q|R");
        row("!x!y||P(x)P(y)P(x)", "P(x)|P(y)");
        row("|P(f(a))P(f(a))", "P(f(a))");
        row("|P(f(a))P(f(b))", "P(f(a))|P(f(b))");
        row("|~P~P", "~P");
        RefutationDesk shared = desk("|||ABCD", "|||~ABCE");
        shared.run(2);
        check.same("of a resolvent", Check.clauseText(shared, 2), "B|C|E|D");
        RefutationDesk factor = desk("!x!y|||P(x)P(y)Q(x)Q(y)");
        factor.step();
        check.same("of a factor", Check.clauseText(factor, 1), "P(x)|Q(x)");
    }

    private static void namesOfVariables() {
        check.words("x, y, z, x1, y1, z1, x2 and so on");
        row("!z9P(z9)", "P(x)");
        row("!x!yP(y,x)", "P(x,y)");
        row("!x!y!zP(z,y,x)", "P(x,y,z)");
        row("!x!y!z!x1P(x1,z,y,x)", "P(x,y,z,x1)");
        row("|!x!y!z!x1!y1!z1!x2!y2P(x,y,z,x1,y1,z1,x2,y2)!x!y!z!x1!y1!z1Q(x,y,z,x1,y1,z1)",
                "P(x,y,z,x1,y1,z1,x2,y2)|Q(z2,x3,y3,z3,x4,y4)");
        RefutationDesk desk = desk(
                "!x!y!z!x1!y1!z1!x2!y2|AP(x,y,z,x1,y1,z1,x2,y2)");
        check.same("eight", Check.clauseText(desk, 0), "A|P(x,y,z,x1,y1,z1,x2,y2)");
        Check.claim(desk, "A|P(z9,z8,z7,z6,z5,z4,z3,z2)", -1, 0, 0, 0);
        check.same("a line", Check.lineText(desk, 0), "A|P(x,y,z,x1,y1,z1,x2,y2)");
        RefutationDesk most = desk("!x!y!z!x1!y1!z1!x2!y2!z2!x3P(x,y,z,x1,y1,z1,x2,y2,z2,x3)");
        check.same("ten", Check.clauseText(most, 0), "P(x,y,z,x1,y1,z1,x2,y2,z2,x3)");
        RefutationDesk line = desk("P");
        Check.claim(line, "P|Q(z9,z8,z7,z6,z5,z4,z3,z2,z1,z0,z,y9,y8,y7)", -1, 0, 0, 0);
        check.same("fourteen", Check.lineText(line, 0),
                "P|Q(x,y,z,x1,y1,z1,x2,y2,z2,x3,y3,z3,x4,y4)");
    }

    private static void fourLiterals() {
        check.words("It FITS if it has at most four literals");
        RefutationDesk desk = desk("|||ABCD", "||||EFGHI");
        check.same("four", Check.clauses(desk), "A|B|C|D");
        check.same("five", desk.figure(4), 1);
        Check.assume(desk, "||||||EFGHEFG");
        check.same("seven that are four", Check.clauseText(desk, 1), "E|F|G|H");
        Check.assume(desk, "|||||||JKLMNJKL");
        check.same("eight that are five", desk.figure(4), 2);
        check.same("a line of four", Check.claim(desk, "A|B|C|D", -1, 0, 0, 0), 0);
        check.refuses("a line of five", IllegalStateException.class,
                () -> Check.claim(desk, "A|B|C|D|E", -1, 0, 0, 0));
    }

    private static void weightSixteen() {
        check.words("and a weight of at most 16");
        RefutationDesk desk = desk("P(a,a,a,a,a,a,a,a,a,a,a,a,a,a,a)");
        check.same("16 of one literal", desk.clause(0, 2), 16);
        check.same("17 of one literal",
                Check.assume(desk, "Q(a,a,a,a,a,a,a,a,a,a,a,a,a,a,a,a)"), 0);
        check.same("left out", desk.figure(4), 1);
        check.same("16 of four", Check.assume(desk, "|||A(a,a,a)B(a,a,a)C(a,a,a)D(a,a,a)"), 1);
        check.same("weight", desk.clause(1, 2), 16);
        check.same("17 of four", Check.assume(desk, "|||E(a,a,a)F(a,a,a)G(a,a,a)H(a,a,a,a)"), 0);
        check.same("left out", desk.figure(4), 2);
        check.same("variables weigh, too",
                Check.assume(desk, "!x!y|~I(x,y,f(x))J(f(f(f(x))),y,x,y)"), 1);
        check.same("weight", desk.clause(2, 2), 13);
        check.same("~ does not", Check.assume(desk, "|~K~L"), 1);
        check.same("weight", desk.clause(3, 2), 2);
        check.same("$ and its number are one", Check.assume(desk, "?xM(x)"), 1);
        check.same("weight", desk.clause(4, 2), 2);
        check.same("a line of 16", Check.claim(desk, "~K|~L|N(a,a,a,a,a,a,a,a,a,a,a,a,a)",
                -1, 3, 0, 0), 0);
        check.refuses("a line of 17", IllegalStateException.class, () -> Check.claim(desk,
                "~K|~L|N(a,a,a,a,a,a,a,a,a,a,a,a,a,a)", -1, 3, 0, 0));
    }

    private static void drawnFits() {
        check.words("if it does not fit, it is LEFT OUT");
        String f6 = "f(f(f(f(f(f(a))))))";
        String f7 = "f(" + f6 + ")";
        RefutationDesk fits = desk("P(" + f6 + ")", "!x>P(x)Q(x,x)");
        fits.run(2);
        check.same("weight 15", Check.clauseText(fits, 2), "Q(" + f6 + "," + f6 + ")");
        RefutationDesk sixteen = desk("P(" + f6 + ")", "!x>P(x)Q(x,x,a)");
        sixteen.run(2);
        check.same("weight 16", sixteen.clause(2, 2), 16);
        check.same("none is left out", sixteen.figure(4), 0);
        RefutationDesk seventeen = desk("P(" + f7 + ")", "!x>P(x)Q(x,x)");
        seventeen.run(2);
        check.same("weight 17", seventeen.figure(4), 1);
        check.same("nothing is kept", seventeen.figure(0), 2);
        RefutationDesk factor = desk("!x!y||P(x)P(g(y,y))Q(x,x,x,x,y)");
        factor.step();
        check.same("a factor of weight 21", factor.figure(4), 1);
        check.same("nothing is kept", factor.figure(0), 1);
        RefutationDesk four = desk("||AB~C", "||CDE");
        four.run(2);
        check.same("a resolvent of four", four.clause(2, 1), 4);
        RefutationDesk five = desk("|||ABF~C", "||CDE");
        five.run(2);
        check.same("a resolvent of five", five.figure(4), 1);
        check.same("nothing is kept", five.figure(0), 2);
    }

    private static void drawn(String formulas, int clauses) {
        RefutationDesk desk = desk(formulas.split(" "));
        desk.run(50);
        check.same("clauses of " + formulas, desk.figure(0), clauses);
    }

    private static void alike() {
        check.words("can be MADE ALIKE if some terms put for the variables make them the same");
        drawn("P(a) ~P(a)", 3);
        drawn("P(a) ~P(b)", 2);
        drawn("!xP(x) ~P(b)", 3);
        drawn("!xP(x,x) ~P(a,b)", 2);
        drawn("!xP(x,x) ~P(a,a)", 3);
        drawn("!xP(x,f(x)) !x~P(x,x)", 2);
        drawn("!xP(x,f(x)) !x~P(f(x),x)", 2);
        drawn("!xP(x,f(x)) !x!y~P(y,x)", 3);
        drawn("!x!yP(x,g(x,y)) !x!y~P(g(y,x),x)", 2);
        drawn("!x!yP(x,y,f(y)) !x~P(f(x),x,x)", 2);
        drawn("!xP(f(x)) ~P(f)", 2);
        drawn("!xP(f(x)) !x~P(f(x,x))", 2);
        // f twenty-one times around z, of which neither clause has more than eleven
        String nine = "f(".repeat(9) + "z" + ")".repeat(9);
        String eleven = "f(".repeat(11) + "x" + ")".repeat(11);
        String deep = "!x!y~P(x," + eleven + ",y,y)";
        drawn("!z!xP(" + nine + ",x,f(x),f(x)) " + deep, 3);
        drawn("!z!xP(" + nine + ",x,f(x),z) " + deep, 2);
    }

    private static void variablesOfBoth() {
        check.words("all variables of D being others than those of C");
        drawn("!xP(x,a) !x~P(b,x)", 3);
        drawn("!xP(f(x)) !x~P(x)", 3);
        RefutationDesk desk = desk("!x>P(x)Q(x,a)", "!xP(f(x))");
        desk.run(2);
        check.same("drawn", Check.clauseText(desk, 2), "Q(f(x),a)");
        RefutationDesk two = desk("!x!y>P(x)Q(x,y)", "!x!y|P(y)R(x,y)");
        two.run(2);
        check.same("four variables", Check.clauseText(two, 2), "R(x,y)|Q(y,z)");
    }

    private static void noMoreLiterals() {
        check.words("C SUBSUMES D if C has no more literals than D");
        RefutationDesk desk = desk("!x|P(x)Q", "P(a)", "!x!y|P(x)P(y)");
        check.same("two and one", desk.subsumes(2, 1) ? 1 : 0, 0);
        check.same("two and two", desk.subsumes(2, 0) ? 1 : 0, 1);
        check.same("not the other way", desk.subsumes(0, 2) ? 1 : 0, 0);
        check.same("one and itself", desk.subsumes(1, 1) ? 1 : 0, 1);
        check.same("two and itself", desk.subsumes(2, 2) ? 1 : 0, 1);
        RefutationDesk line = desk("!x!y|P(x)P(y)");
        check.same("a line of fewer", Check.claim(line, "P(a)", -1, 0, 0, 0), -1);
        check.same("as many", Check.claim(line, "P(a)|P(b)", -1, 0, 0, 0), 0);
        check.same("more", Check.claim(line, "P(a)|Q|R", -1, 0, 0, 0), 1);
    }

    private static void factorsSigns() {
        check.words("not the same, both with ~ or both without");
        RefutationDesk desk = desk("!x!y|P(x)~P(f(y))");
        desk.step();
        check.same("no factor", desk.clause(0, 3), 0);
        for (int k = 1; k < desk.figure(0); k++) {
            check.same("drawn are resolvents", desk.clause(k, 3), 2);
        }
        RefutationDesk both = desk("!x|~P(x)~P(a)");
        both.step();
        check.same("both with ~", Check.clauseText(both, 1), "~P(a)");
        check.same("a factor", both.clause(1, 3), 1);
        check.words("one with ~, one without");
        RefutationDesk same = desk("!x~P(x)", "~Q");
        same.run(50);
        check.same("no resolvent", same.figure(0), 2);
    }

    private static void leftOutComesFirst() {
        check.words("if it does not fit, it is LEFT OUT; otherwise,"
                + " if it has two opposite literals, it is TRUE");
        RefutationDesk desk = desk("A");
        Check.assume(desk, "||||ABCD~A");
        check.same("left out", desk.figure(4), 1);
        check.same("not true", desk.figure(5), 0);
        check.same("not known", desk.figure(6), 0);
        RefutationDesk full = Desks.with(100);
        Check.assume(full, "||||ABCDE");
        check.same("left out, not full", full.figure(4), 1);
        check.same("open", full.state(), RefutationDesk.OPEN);
    }

    private static void trueComesBeforeKnown() {
        check.words("it is TRUE; otherwise,"
                + " if some clause that waits or is active subsumes it, it is KNOWN");
        RefutationDesk desk = desk("A");
        Check.assume(desk, "|A~A");
        check.same("true", desk.figure(5), 1);
        check.same("not known", desk.figure(6), 0);
        Check.assume(desk, "|AB");
        check.same("one that waits", desk.figure(6), 1);
        desk.step();
        Check.assume(desk, "|BA");
        check.same("one that is active", desk.figure(6), 2);
        RefutationDesk full = Desks.with(100);
        Check.assume(full, "|A~A");
        check.same("true, not full", full.figure(5), 1);
        check.same("open", full.state(), RefutationDesk.OPEN);
    }

    private static void knownComesBeforeFull() {
        check.words("it is KNOWN; otherwise, if 100 are kept, it is full");
        RefutationDesk desk = Desks.with(100);
        Check.assume(desk, "|P(a)Q");
        check.same("known", desk.figure(6), 1);
        check.same("open", desk.state(), RefutationDesk.OPEN);
        check.same("a step goes on", desk.step(), 0);
        Check.assume(desk, "Q");
        check.same("full", desk.state(), RefutationDesk.FULL);
        check.same("not known", desk.figure(6), 1);
        check.same("not kept", desk.figure(0), 100);
    }

    private static void hundredClauses() {
        check.words("the numbers 0, 1, .. in the order in which they came, at most 100");
        RefutationDesk desk = Desks.with(99);
        check.same("the hundredth", Check.assume(desk, "Q"), 1);
        check.same("it has number 99", Check.clauseText(desk, 99), "Q");
        check.same("number 0", Check.clauseText(desk, 0), "P(a)");
        check.same("open", desk.state(), RefutationDesk.OPEN);
        check.same("the next", Check.assume(desk, "R"), 0);
        check.same("full", desk.state(), RefutationDesk.FULL);
        check.refuses("number 100", IndexOutOfBoundsException.class, () -> desk.clause(100, 0));
        RefutationDesk at = Desks.with(99);
        check.same("the hundredth, and no more", Check.assume(at, "&Q&RS"), 1);
        check.same("full", at.state(), RefutationDesk.FULL);
    }

    /** Heavy clauses first, so that the least number is not the least weight. */
    private static void fourthStep() {
        check.words("in every fourth step (the fourth, the eighth, .. of all that are done) the one"
                + " with the least number");
        RefutationDesk desk = new RefutationDesk();
        for (char letter = 'A'; letter <= 'J'; letter++) {
            Check.assume(desk, letter + "(a" + ",a".repeat('J' - letter) + ")");
        }
        int[] due = {9, 8, 7, 0, 6, 5, 4, 1, 3};
        for (int n = 0; n < due.length; n++) {
            check.same("step " + (n + 1), desk.step(), due[n]);
        }
        Check.assume(desk, "&K(a,a)&L&MN");
        int[] later = {11, 12, 2, 13, 10};
        for (int n = 0; n < later.length; n++) {
            check.same("step " + (due.length + n + 1), desk.step(), later[n]);
        }
        check.refuses("none waits", IllegalStateException.class, () -> desk.step());
        check.same("steps", desk.figure(3), 14);
        Check.assume(desk, "&O(a)Q");
        check.same("step 15", desk.step(), 15);
        Check.assume(desk, "R");
        check.same("step 16, though one was refused", desk.step(), 14);
        RefutationDesk run = new RefutationDesk();
        Check.assume(run, "&A(a,a)&B(a)&C&DE");
        check.same("run", run.run(3), 3);
        check.same("run counts, too", run.step(), 0);
        RefutationDesk gone = new RefutationDesk();
        Check.assume(gone, "&A(a,a,a)&|B(a)B(a)&|P(a)P(b)!xP(x)");
        check.same("first", gone.step(), 1);
        check.same("second", gone.step(), 3);
        check.same("third", gone.step(), 0);
        Check.assume(gone, "Q");
        check.same("fourth, gone at once", gone.step(), 2);
        check.same("it is gone", gone.clause(2, 0), 2);
    }

    private static void leastWeight() {
        check.words("else that with the least weight, of several the least number");
        RefutationDesk desk = desk("A(a)", "B", "C(a)", "D");
        check.same("the least weight", desk.step(), 1);
        check.same("of the others", desk.step(), 3);
        check.same("the least number", desk.step(), 0);
        RefutationDesk more = desk("|AB", "C(a)", "D(a)");
        check.same("weight, not literals", more.step(), 0);
        check.same("the least number", more.step(), 1);
    }

    private static void goneAtOnce() {
        check.words("If an active one subsumes it, it is gone, and that is all.");
        RefutationDesk desk = desk("!y|P(a)P(y)", "!x!y!z||P(x)P(y)R(z,z)", "!xP(x)");
        check.same("the lightest", desk.step(), 2);
        int kept = desk.figure(0);
        check.same("given", desk.step(), 0);
        check.same("gone", desk.clause(0, 0), 2);
        check.same("given", desk.step(), 1);
        check.same("gone", desk.clause(1, 0), 2);
        check.same("nothing is drawn", desk.figure(0), kept);
        check.same("nothing is known", desk.figure(6), 0);
        check.same("one is active", desk.figure(2), 1);
        check.same("three steps", desk.figure(3), 3);
        check.same("none waits", desk.state(), RefutationDesk.SATURATED);
    }

    private static void activeOnesGo() {
        check.words("Otherwise the active ones that it subsumes are gone, and it is active.");
        RefutationDesk desk = desk("P(a)", "P(b)", "Q");
        desk.run(3);
        check.same("three are active", desk.figure(2), 3);
        Check.assume(desk, "&P(c)!xP(x)");
        check.same("P(c)", desk.clause(3, 0), 0);
        check.same("given", desk.step(), 3);
        check.same("given", desk.step(), 4);
        int[] due = {2, 2, 1, 2, 1};
        for (int k = 0; k < due.length; k++) {
            check.same("clause " + k, desk.clause(k, 0), due[k]);
        }
        RefutationDesk waiting = desk("P(a)", "P(b,b)", "!xP(x)", "!xP(x,x)");
        check.same("first", waiting.step(), 0);
        check.same("second", waiting.step(), 2);
        check.same("an active one is gone", waiting.clause(0, 0), 2);
        check.same("third", waiting.step(), 1);
        check.same("a waiting one stays till it is given", waiting.clause(3, 0), 0);
    }

    private static void itselfToo() {
        check.words("for each active clause, by number (itself, too)");
        RefutationDesk desk = desk("!x!y>P(x,y)P(y,x)");
        desk.step();
        check.same("known or true", desk.figure(5) + desk.figure(6), 2);
        RefutationDesk more = desk("!x>P(x)P(f(x))");
        more.step();
        check.same("with itself", Check.clauseText(more, 1), "P(f(f(x)))|~P(x)");
        check.same("C", more.clause(1, 4), 0);
        check.same("D", more.clause(1, 6), 0);
        RefutationDesk order = desk("!x>P(x)A(x)", "!x>P(x)B(x)", "!x>P(x)C(x)");
        order.run(3);
        Check.assume(order, "P(a)");
        order.step();
        check.same("by number", Check.clauseText(order, 4) + Check.clauseText(order, 5)
                + Check.clauseText(order, 6), "A(a)B(a)C(a)");
        RefutationDesk gone = desk("|~P(a)A", "|~P(b)B", "~P(a)");
        gone.run(3);
        check.same("gone", gone.clause(0, 0), 2);
        Check.assume(gone, "P(a)");
        gone.step();
        check.same("not with one that is gone", gone.figure(0), 5);
        check.same("but with the active one", gone.state(), RefutationDesk.REFUTED);
    }

    private static void overByTheEmptyOne() {
        check.words("When the empty clause was kept, or it is full, the step is over.");
        RefutationDesk desk = desk("~P(a)", "!x>P(x)Q(x)");
        check.same("two", desk.run(50), 2);
        int before = desk.figure(0);
        int known = desk.figure(6);
        Check.assume(desk, "!xP(x)");
        check.same("given", desk.step(), before);
        check.same("the empty one alone", desk.figure(0), before + 2);
        check.same("it is empty", desk.clause(before + 1, 1), 0);
        check.same("nothing is known by it", desk.figure(6), known);
        check.same("refuted", desk.state(), RefutationDesk.REFUTED);
    }

    private static void overByFull() {
        RefutationDesk desk = Desks.with(98);
        check.same("50", desk.run(50), 50);
        check.same("48", desk.run(50), 48);
        check.same("a clause of factors", Check.assume(desk, "!x!y||Q(x)Q(y)~P(x)"), 1);
        check.same("given", desk.step(), 98);
        check.same("its factor, then a resolvent too many", desk.figure(0), 100);
        check.same("the factor", Check.clauseText(desk, 99), "Q(x)|~P(x)");
        check.same("full", desk.state(), RefutationDesk.FULL);
        check.same("nothing more was looked at",
                desk.figure(4) + desk.figure(5) + desk.figure(6), 0);
        RefutationDesk factor = Desks.with(99);
        factor.run(50);
        factor.run(49);
        check.same("the hundredth", Check.assume(factor, "!x!y|||Q(x)Q(y)~P(a)~P(x)"), 1);
        check.same("given", factor.step(), 99);
        check.same("full by a factor", factor.state(), RefutationDesk.FULL);
        check.same("nothing more was looked at",
                factor.figure(4) + factor.figure(5) + factor.figure(6), 0);
        check.same("it is active", factor.clause(99, 0), 1);
        check.same("the step is done", factor.figure(3), 100);
    }

    /** The empty clause as the hundredth, and as one too many. */
    private static void refutedOrFull() {
        check.words("THE STATE is REFUTED if the empty clause is kept;"
                + " otherwise FULL if it was full once");
        RefutationDesk last = Desks.with(98);
        Check.deny(last, "P(a)");
        check.same("two steps", last.run(2), 2);
        check.same("not yet", last.state(), RefutationDesk.OPEN);
        last.run(50);
        last.run(50);
        check.same("refuted", last.state(), RefutationDesk.REFUTED);
        check.same("100 are kept", last.figure(0), 100);
        check.same("the hundredth is empty", Check.clauseText(last, 99), "0");
        check.same("proof", last.proof(), 3);
        check.same("more is known", Check.assume(last, "Q"), 0);
        check.same("still refuted", last.state(), RefutationDesk.REFUTED);
        RefutationDesk over = Desks.with(99);
        Check.deny(over, "P(a)");
        over.run(50);
        over.run(50);
        check.same("full", over.state(), RefutationDesk.FULL);
        check.same("100 are kept", over.figure(0), 100);
        check.same("no proof", over.proof(), RefutationDesk.NONE);
    }

    private static void openOrNot() {
        check.words("otherwise OPEN if a clause waits;"
                + " otherwise SATURATED if none was ever left out, otherwise EXHAUSTED");
        RefutationDesk desk = desk("P");
        check.same("one waits", desk.state(), RefutationDesk.OPEN);
        desk.step();
        check.same("none waits", desk.state(), RefutationDesk.SATURATED);
        Check.assume(desk, "&Q||||ABCDE");
        check.same("one waits, one was left out", desk.state(), RefutationDesk.OPEN);
        desk.step();
        check.same("none waits, one was left out", desk.state(), RefutationDesk.EXHAUSTED);
        Check.assume(desk, "&P|PQ");
        check.same("known ones do not wait", desk.state(), RefutationDesk.EXHAUSTED);
        Check.assume(desk, "R");
        check.same("open again", desk.state(), RefutationDesk.OPEN);
        RefutationDesk drawn = desk("|||ABFC", "||~CDE");
        drawn.run(50);
        check.same("a resolvent was left out", drawn.state(), RefutationDesk.EXHAUSTED);
    }
}
