/** The bounds that the document's 'Terms' name: each by its last allowed and first refused one. */
public final class TermsTest {
    private static final String[] DIGITS = {"", "0", "1", "2", "3", "4", "5", "6", "7", "8", "9"};
    private static final Class<IllegalArgumentException> ARGUMENT = IllegalArgumentException.class;

    private static final Check check = new Check();

    public static void main(String[] args) {
        longestText();
        variables();
        functions();
        madeFunctions();
        terms();
        atoms();
        differentNumbersOfTerms();
        brackets();
        opposites();
        operators();
        bound();
        emptyClause();
        firstWrongCharacter();
        textsEnd();
        unboundVariable();
        check.end("TermsTest");
    }

    /** The formula's only row is this. */
    private static void row(String formula, String due) {
        check.same("rows of " + formula,
                Check.outcome(() -> Check.assume(new RefutationDesk(), formula)), "1");
        check.same("row of " + formula, Check.rowsOf(formula, false), due);
    }

    private static void noFormula(String text, int at) {
        for (boolean denied : new boolean[] {false, true}) {
            RefutationDesk desk = Desks.typed(new RefutationDesk(), text);
            check.refuses("assume " + text, ARGUMENT, () -> desk.assume(denied));
            check.same("AT of the formula " + text, desk.at(), at);
        }
    }

    /** The clause becomes this line, by a row that subsumes all clauses with Z in them. */
    private static void line(String clause, String due) {
        RefutationDesk desk = new RefutationDesk();
        Check.assume(desk, "Z");
        check.same("claim " + clause,
                Check.outcome(() -> Check.claim(desk, "Z|" + clause, -1, 0, 0, 0)), "0");
        check.same("line of " + clause, Check.lineText(desk, 0), "Z|" + due);
    }

    private static void noClause(String text, int at) {
        RefutationDesk desk = new RefutationDesk();
        Check.assume(desk, "Z");
        Check.type(desk, text);
        check.refuses("claim " + text, ARGUMENT, () -> desk.claim(-1, 0, 0, 0));
        check.same("AT of the clause " + text, desk.at(), at);
    }

    /** A text that both a formula and a clause go wrong with. */
    private static void neither(String text, int at) {
        noFormula(text, at);
        noClause(text, at);
    }

    private static void longestText() {
        check.words("a row of at most 160 characters 33 .. 126");
        RefutationDesk desk = new RefutationDesk();
        String most = "P(" + "a,".repeat(78) + "a)";
        check.same("160", Check.type(desk, most), 160);
        check.refuses("161", UnsupportedOperationException.class, () -> desk.type(')'));
        check.same("it is read to its end", desk.assume(false), 0);
        check.same("and left out", desk.figure(4), 1);
        neither("P(" + "a,".repeat(78) + "a;", 159);
        neither("P(" + "a,".repeat(79), 160);
        neither("P(" + "a,".repeat(78) + "a0", 160);
        noFormula("&" + most.substring(0, 157) + ")", 159);
        noClause("P|".repeat(80), 160);
        RefutationDesk ends = new RefutationDesk();
        check.same("33", ends.type(33), 1);
        check.same("126", ends.type(126), 2);
        check.refuses("32", ARGUMENT, () -> ends.type(32));
        check.refuses("127", ARGUMENT, () -> ends.type(127));
        check.same("still two", ends.type(0), 2);
    }

    private static void variables() {
        check.words("A VARIABLE is x, y or z, perhaps with one digit behind it.");
        for (char letter = 'x'; letter <= 'z'; letter++) {
            for (String digit : DIGITS) {
                row("!" + letter + digit + "P(" + letter + digit + ")", "P(x)");
                line("P(" + letter + digit + ")", "P(x)");
            }
            noFormula("!" + letter + "10P", 3);
            noFormula("!" + letter + "9P(" + letter + "99)", 7);
            noClause("P(" + letter + "00)", 4);
        }
        for (String wrong : new String[] {"w", "{", "X", "a", "0", "1", "$1", "~", "("}) {
            noFormula("!" + wrong + "P", 1);
            noFormula("?" + wrong + "P", 1);
        }
        neither("P(w)", 2);
        neither("P({)", 2);
        noFormula("!x/P", 2);
        noFormula("!x:P", 2);
        noClause("P(x/)", 3);
        noClause("P(x:)", 3);
    }

    private static void functions() {
        check.words("A FUNCTION is a letter a .. k, perhaps with one digit behind it");
        for (char letter = 'a'; letter <= 'k'; letter++) {
            for (String digit : DIGITS) {
                String name = letter + digit;
                row("P(" + name + ")", "P(" + name + ")");
                row("P(" + name + "(" + name + "))", "P(" + name + "(" + name + "))");
                line("P(" + name + ")", "P(" + name + ")");
            }
            neither("P(" + letter + "10)", 4);
        }
        neither("P(`)", 2);
        neither("P(l)", 2);
        neither("P(A)", 2);
        neither("P(7)", 2);
        neither("P(a/)", 3);
        neither("P(a:)", 3);
    }

    private static void madeFunctions() {
        check.words("in clauses only, $ and a number 1 .. 99 without a zero in front");
        for (int n = 1; n <= 99; n++) {
            line("P($" + n + ")", "P($" + n + ")");
        }
        line("P($99($1,$10))", "P($99($1,$10))");
        noClause("P($0)", 3);
        noClause("P($00)", 3);
        noClause("P($01)", 3);
        noClause("P($100)", 5);
        noClause("P($999)", 5);
        noClause("P($)", 3);
        noClause("P($", 3);
        noClause("P($$1)", 3);
        noClause("P($x)", 3);
        noClause("P($/)", 3);
        noClause("P($:)", 3);
        noClause("P($1/)", 4);
        noClause("P($1:)", 4);
        noClause("$1", 0);
        noFormula("P($1)", 2);
        noFormula("P(a,$1)", 4);
        noFormula("P(f($1))", 4);
    }

    private static void terms() {
        check.words("perhaps with ( TERMS ) behind it: one or more with , between them");
        row("P(a)", "P(a)");
        row("P(a,b)", "P(a,b)");
        row("P(f(a),f(a,b,c))", "P(f(a),f(a,b,c))");
        neither("P()", 2);
        neither("P(f())", 4);
        neither("P(,a)", 2);
        neither("P(a,)", 4);
        neither("P(a,,b)", 4);
        neither("P(f(,))", 4);
        neither("P(ab)", 3);
        neither("P(f(a)b)", 6);
        neither("P(f(a)(a))", 6);
        neither("P(a)(a)", 4);
        noFormula("!xP(x(a))", 5);
        noClause("P(x(a))", 3);
        noClause("P(x2(a))", 4);
        neither("P((a))", 2);
    }

    private static void atoms() {
        check.words("An ATOM is a capital letter, perhaps with ( TERMS ) behind it.");
        for (char letter = 'A'; letter <= 'Z'; letter++) {
            row("" + letter, "" + letter);
            row("~" + letter + "(a)", "~" + letter + "(a)");
            line("~" + letter + "(a)", "~" + letter + "(a)");
        }
        neither("@", 0);
        neither("[", 0);
        neither("a", 0);
        neither("P0", 1);
        neither("Pa", 1);
        neither("P)", 1);
    }

    private static void differentNumbersOfTerms() {
        check.words("that have the same name and different numbers of terms are different");
        row("||PP(a)P(a,a)", "P|P(a)|P(a,a)");
        row("|P~P(a)", "P|~P(a)");
        row("||P(f)P(f(a))P(f(a,a))", "P(f)|P(f(a))|P(f(a,a))");
        RefutationDesk atoms = new RefutationDesk();
        check.same("all are kept", Check.assume(atoms, "&P&P(a)P(a,a)"), 3);
        Check.deny(atoms, "P(a,a,a)");
        atoms.run(50);
        check.same("none is drawn", atoms.figure(0), 4);
        check.same("none is refuted", atoms.state(), RefutationDesk.SATURATED);
        RefutationDesk functions = new RefutationDesk();
        check.same("all are kept", Check.assume(functions, "&P(f)!x&P(f(x))P(f(x,x))"), 3);
        Check.deny(functions, "P(f(a,a,a))");
        functions.run(50);
        check.same("none is drawn", functions.figure(0), 4);
        check.same("none is gone", functions.figure(2), 4);
        row("|P(f1)P(f)", "P(f1)|P(f)");
    }

    private static void brackets() {
        check.words("Of the ( of functions at most fourteen lie in one another.");
        String fourteen = "f(".repeat(14) + "a" + ")".repeat(14);
        String fifteen = "f(".repeat(15) + "a" + ")".repeat(15);
        row("P(" + fourteen + ")", "P(" + fourteen + ")");
        String inLine = "P(" + "f(".repeat(13) + "x" + ")".repeat(14);
        line(inLine, inLine);
        RefutationDesk whole = new RefutationDesk();
        Check.assume(whole, "!xP(x)");
        check.same("fourteen in a clause",
                Check.claim(whole, "P(" + fourteen + ")", -1, 0, 0, 0), 0);
        neither("P(" + fifteen + ")", 31);
        neither("P(a," + fifteen + ")", 33);
        neither("P(" + "f(".repeat(15), 31);
        noClause("P|~Q(" + fifteen + ")", 34);
        noClause("P(" + "$9(".repeat(15) + "a", 46);
        RefutationDesk desk = new RefutationDesk();
        check.same("twice fourteen, side by side",
                Check.assume(desk, "P(" + fourteen + "," + fourteen + ")"), 0);
        check.same("left out, but a formula", desk.figure(4), 1);
        Check.assume(desk, "Z");
        check.refuses("a clause that is too heavy only", IllegalStateException.class,
                () -> Check.claim(desk, "Z|P(" + fourteen + "," + fourteen + ")", -1, 0, 0, 0));
        check.same("at", desk.at(), -1);
    }

    private static void opposites() {
        check.words("A LITERAL is an atom, or ~ and an atom; both are OPPOSITE.");
        String[] opposite = {"|P~P", "|~PP", "!x|P(x)~P(x)", "||PQ~P", "|||PQR~P", "|||PQR~R"};
        for (String formula : opposite) {
            RefutationDesk desk = new RefutationDesk();
            check.same("kept of " + formula, Check.assume(desk, formula), 0);
            check.same("true of " + formula, desk.figure(5), 1);
        }
        String[] others = {"|P(a)~P(b)", "!x!y|P(x)~P(y)", "!x|P(x)~P(f(x))", "|P~Q", "|P~P(a)"};
        for (String formula : others) {
            RefutationDesk desk = new RefutationDesk();
            check.same("kept of " + formula, Check.assume(desk, formula), 1);
            check.same("true of " + formula, desk.figure(5), 0);
        }
        noClause("~~P", 1);
    }

    private static void operators() {
        check.words("Of the ~ & | > ! ? at most ten lie in one another.");
        row("~".repeat(10) + "P", "P");
        row("!x".repeat(10) + "P(x)", "P(x)");
        row("?x".repeat(10) + "P(x)", "P($10)");
        row("|".repeat(7) + "~~~P" + "~P".repeat(7), "~P");
        row("~!x&P>P|?y~!z|&PPPP", "~P");
        check.same("ten &", Check.rowsOf("&".repeat(10) + "ABCDEFGHIJK", false),
                "A B C D E F G H I J K");
        check.same("ten > denied", Check.rowsOf(">A".repeat(10) + "B", true), "A ~B");
        for (String eleventh : new String[] {"~P", "&PP", "|PP", ">PP", "!xP", "?xP"}) {
            noFormula("~".repeat(10) + eleventh, 10);
            noFormula("!x".repeat(10) + eleventh, 20);
            noFormula("&".repeat(10) + eleventh, 10);
            noFormula("|P".repeat(10) + eleventh, 20);
            noFormula(">P".repeat(10) + eleventh, 20);
        }
        row("&" + "~".repeat(9) + "P" + "~".repeat(9) + "P", "~P");
        noFormula("&" + "~".repeat(9) + "P" + "~".repeat(10) + "P", 20);
    }

    private static void bound() {
        check.words("each by the nearest ! or ? around it that has it");
        row("!x?xP(x)", "P($1(x))");
        row("?x!xP(x)", "P(x)");
        row("?x|!xP(x)Q(x)", "P(x)|Q($1)");
        row("!x?x1P(x1,x)", "P($1(x),x)");
        row("!x0?x1P(x1,x0)", "P($1(x),x)");
        noFormula("|!xP(x)Q(x)", 9);
        noFormula("|Q(x)!xP(x)", 3);
        noFormula("!xP(x0)", 4);
        noFormula("!x0P(x)", 5);
        noFormula("!x1P(x2)", 5);
    }

    private static void emptyClause() {
        check.words("A CLAUSE is the character 0 (EMPTY), or literals with | between them.");
        RefutationDesk desk = new RefutationDesk();
        Check.assume(desk, "&P~P");
        check.same("P", Check.claim(desk, "P", -1, 0, 0, 0), 0);
        check.same("~P", Check.claim(desk, "~P", -1, 1, 0, 0), 1);
        check.same("0", Check.claim(desk, "0", 0, 0, 1, 0), 2);
        check.same("the empty line", Check.lineText(desk, 2), "0");
        noClause("", 0);
        noClause("00", 1);
        noClause("0|P", 1);
        noClause("0P", 1);
        noClause("~0", 1);
        noClause("P|0", 2);
        noClause("1", 0);
        noClause("|P", 0);
        noClause("P|", 2);
        noClause("P||P", 2);
        noClause("P|~", 3);
        noClause("P&P", 1);
        noFormula("0", 0);
    }

    private static void firstWrongCharacter() {
        check.words("the place of the first character that cannot stand where it stands");
        noFormula("PP", 1);
        noFormula("&PPP", 3);
        noFormula("P)", 1);
        noFormula("##", 0);
        noFormula("&#(", 1);
        noFormula("!xP(x)x", 6);
        noFormula("P|P", 1);
        noFormula("(P)", 0);
        noClause("P,P", 1);
        noClause("P(x)x", 4);
        noClause("P|(P)", 2);
        noClause("P|Q(x,#)|#", 6);
    }

    private static void textsEnd() {
        check.words("or of the text's end, if more must come");
        String formula = "!x>&P(x,f(a0,x))~Q?y1?y|P(y)R";
        for (int length = 0; length < formula.length(); length++) {
            noFormula(formula.substring(0, length), length);
        }
        row(formula, "~P(x,f(a0,x))|Q|P($2(x))|R");
        for (String clause : new String[] {"", "P|", "P|~", "P(", "P(x", "P(x1,", "P(f(a"}) {
            noClause(clause, clause.length());
        }
    }

    private static void unboundVariable() {
        check.words("of a variable that is not bound the place of its letter");
        noFormula("P(x)", 2);
        noFormula("P(z9)", 2);
        noFormula("P(f(a,y0))", 6);
        noFormula("!xP(x,y)", 6);
        noFormula("!x&P(x)!yP(x,y,z3)", 15);
        line("P(z9)", "P(x)");
    }
}
