/** The boundary cases that the sentences of promises 1 to 15 name, sentence by sentence. */
public final class PromiseBoundsTest {
    private static final Class<IllegalArgumentException> ARGUMENT = IllegalArgumentException.class;
    private static final Class<IllegalStateException> STATE = IllegalStateException.class;
    private static final Class<IndexOutOfBoundsException> INDEX = IndexOutOfBoundsException.class;
    private static final int NONE = RefutationDesk.NONE;

    private static final Check check = new Check();

    public static void main(String[] args) {
        newObject();
        typedBytes();
        typedTooMuch();
        wiped();
        assumedTillFull();
        assumedWhenFull();
        assumedNoFormula();
        assumedTooMuch();
        assumedTooManyFunctions();
        at();
        state();
        step();
        run();
        print();
        out();
        clauseNumbers();
        clauseOrigins();
        subsumes();
        proof();
        claimedRow();
        claimedFactor();
        claimedResolvent();
        claimedNoClause();
        claimedUnfit();
        claimedLines();
        figure();
        check.end("PromiseBoundsTest");
    }

    private static RefutationDesk desk(String... formulas) {
        RefutationDesk desk = new RefutationDesk();
        for (String formula : formulas) {
            Check.assume(desk, formula);
        }
        return desk;
    }

    private static void newObject() {
        check.words("No text, no clauses, no lines, OUT empty.");
        check.same("text", new RefutationDesk().wipe(), 0);
        check.same("clauses", new RefutationDesk().figure(0), 0);
        check.same("lines", new RefutationDesk().figure(8), 0);
        check.refuses("OUT", INDEX, () -> new RefutationDesk().out(0));
        check.refuses("clause 0", INDEX, () -> new RefutationDesk().print(false, 0));
        check.refuses("line 0", INDEX, () -> new RefutationDesk().print(true, 0));
    }

    private static void typedBytes() {
        check.words("up to the first byte 0 (or all eight)");
        RefutationDesk desk = new RefutationDesk();
        check.same("none", desk.type(0), 0);
        check.same("none, as byte 0 comes first", desk.type(0x5050505050505000L), 0);
        check.same("one", desk.type(0x5050505050500050L), 1);
        check.same("seven", desk.type(0x0050505050505050L), 8);
        check.same("eight", desk.type(0x5050505050505050L), 16);
        check.same("what is behind byte 0 may be anything", desk.type(0xff7f200102030050L), 17);
        check.words("IllegalArgumentException when one of them is not 33 .. 126");
        for (int place = 0; place < 8; place++) {
            long before = place == 0 ? 0 : 0x5050505050505050L >>> (64 - 8 * place);
            int shift = 8 * place;
            for (long wrong : new long[] {1, 32, 127, 128, 255}) {
                check.refuses("byte " + wrong + " at " + place, ARGUMENT,
                        () -> desk.type(before | wrong << shift));
            }
            int length = desk.wipe();
            check.same("nothing was typed", length, place == 0 ? 17 : place);
            check.same("33 at " + place, desk.type(before | 33L << shift), place + 1);
            desk.wipe();
            check.same("126 at " + place, desk.type(before | 126L << shift), place + 1);
        }
    }

    private static void typedTooMuch() {
        check.words("UnsupportedOperationException when there would be more than 160");
        for (int more = 1; more <= 8; more++) {
            String part = "P".repeat(more);
            RefutationDesk brim = Desks.typed(new RefutationDesk(), "~".repeat(160 - more));
            check.same(more + " to 160", brim.type(Check.packed(part)), 160);
            check.same("nothing more", brim.type(0), 160);
            RefutationDesk over = Desks.typed(new RefutationDesk(), "~".repeat(161 - more));
            check.refuses(more + " to 161", UnsupportedOperationException.class,
                    () -> over.type(Check.packed(part)));
            check.same("nothing is put", over.type(0), 161 - more);
            check.same("wiped", over.wipe(), 161 - more);
            check.same("there is room again", over.type(Check.packed(part)), more);
        }
    }

    private static void wiped() {
        check.words("The text has no characters then: how many it had.");
        RefutationDesk desk = new RefutationDesk();
        check.same("none", desk.wipe(), 0);
        desk.type('P');
        check.same("one", desk.wipe(), 1);
        check.same("none again", desk.wipe(), 0);
        Check.type(desk, "P".repeat(160));
        check.same("160", desk.wipe(), 160);
        check.refuses("no text is no formula", ARGUMENT, () -> desk.assume(false));
        check.same("its end", desk.at(), 0);
        check.same("what is typed then is the text", Check.assume(desk, "Q"), 1);
        check.same("Q", Check.clauseText(desk, 0), "Q");
    }

    private static void assumedTillFull() {
        check.words("are taken in, one after the other, till it is full");
        RefutationDesk desk = Desks.with(98);
        check.same("how many were kept", Check.assume(desk, "&A&B&C&A|A~A"), 2);
        check.same("full", desk.state(), RefutationDesk.FULL);
        check.same("none behind is known", desk.figure(6), 0);
        check.same("none behind is true", desk.figure(5), 0);
        check.same("the text has no characters then", desk.wipe(), 0);
        RefutationDesk exact = Desks.with(98);
        check.same("just so many", Check.assume(exact, "&A&BA"), 2);
        check.same("not full", exact.state(), RefutationDesk.OPEN);
        check.same("known", exact.figure(6), 1);
        check.words("How many were kept.");
        check.same("none, as it is true", Check.assume(desk("P"), "|Q~Q"), 0);
        check.same("none, as it is known", Check.assume(desk("P"), "P"), 0);
        check.same("none, as it is left out", Check.assume(desk("P"), "||||ABCDE"), 0);
        check.same("all of 16", Check.assume(desk("P"), "|&AB|&CD|&EF&GH"), 16);
    }

    private static void assumedWhenFull() {
        check.words("(none, if it was full before; the new functions are made all the same)");
        RefutationDesk desk = Desks.full();
        check.same("none", Check.assume(desk, "&P(a)&?xR(x)&?x|R(x)~R(x)||||ABCDE"), 0);
        check.same("functions", desk.figure(7), 2);
        check.same("none is left out", desk.figure(4), 0);
        check.same("none is true", desk.figure(5), 0);
        check.same("none is known", desk.figure(6), 0);
        check.same("the text has no characters then", desk.wipe(), 0);
        check.same("at", desk.at(), -1);
        check.same("denied", Check.deny(desk, "!xR(x)"), 0);
        check.same("functions", desk.figure(7), 3);
        check.refuses("it must be a formula all the same", ARGUMENT,
                () -> Check.assume(desk, "R("));
        desk.wipe();
        check.refuses("of at most 16 rows", STATE, () -> Check.assume(desk, "&I|&AB|&CD|&EF&GH"));
        check.same("functions", desk.figure(7), 3);
    }

    private static void assumedNoFormula() {
        check.words("IllegalArgumentException: it is no formula");
        for (String text : new String[] {"", "0", "P|Q", "p", "P(", "~", "P(x)", "P($1)"}) {
            RefutationDesk desk = Desks.typed(new RefutationDesk(), text);
            check.refuses("assume " + text, ARGUMENT, () -> desk.assume(false));
            check.refuses("assume " + text + " denied", ARGUMENT, () -> desk.assume(true));
            check.same("the text stays", desk.wipe(), text.length());
            check.same("nothing is kept", desk.figure(0), 0);
        }
    }

    private static void assumedTooMuch() {
        check.words("it has more than 16 rows");
        String sixteen = "|&AB|&CD|&EF&GH";
        String ten = "&A&B&C&D&E&F&G&H&IJ";
        check.same("16, of |", Check.assume(desk(), sixteen), 16);
        check.refuses("17, of & and |", STATE, () -> Check.assume(desk(), "&I" + sixteen));
        check.refuses("32", STATE, () -> Check.assume(desk(), "|&IJ" + sixteen));
        check.same("16, of &", Check.assume(desk(), "&" + ten + "&K&L&M&N&OP"), 16);
        check.refuses("17, of &", STATE, () -> Check.assume(desk(), "&" + ten + "&K&L&M&N&O&PQ"));
        check.same("16 denied", Check.deny(desk(), "&|AB&|CD&|EF|GH"), 16);
        check.refuses("17 denied", STATE, () -> Check.deny(desk(), "|I&|AB&|CD&|EF|GH"));
        check.same("17, but four denied", Check.deny(desk(), "&I" + sixteen), 4);
        check.same("known rows count", Check.outcome(() -> Check.assume(desk("A"),
                "&&&&AA&AA&&AA&AA&&&AA&AA&&AA&A&AA")), "IllegalStateException");
        check.words("or one of more than 8 literals");
        String eight = "|||||||ABCDEFGH";
        check.same("8", Check.assume(desk(), eight), 0);
        check.refuses("9", STATE, () -> Check.assume(desk(), "|" + eight + "I"));
        check.refuses("9 that are one", STATE, () -> Check.assume(desk(), "||||||||AAAAAAAAA"));
        check.refuses("9 in the last row", STATE, () -> Check.assume(desk(), "&A|" + eight + "I"));
        check.refuses("9 in the first row", STATE, () -> Check.assume(desk(), "&|" + eight + "IA"));
        check.same("8 denied", Check.deny(desk(), "&&&&&&&ABCDEFGH"), 0);
        check.refuses("9 denied", STATE, () -> Check.deny(desk(), "&&&&&&&&ABCDEFGHI"));
        check.same("9, but one by one denied", Check.deny(desk(), "|" + eight + "I"), 9);
        check.same("8 of >", Check.assume(desk(), ">A>B>C>D>E>F>GH"), 0);
        check.refuses("9 of >", STATE, () -> Check.assume(desk(), ">A>B>C>D>E>F>G>HI"));
    }

    private static void assumedTooManyFunctions() {
        check.words("or there would be more than 99 new functions");
        RefutationDesk desk = Desks.withFunctions(97);
        check.refuses("three more", STATE, () -> Check.assume(desk, "?x?y?zR(z)"));
        desk.wipe();
        check.same("two more", Check.assume(desk, "?x?yR(y)"), 1);
        check.same("99", desk.figure(7), 99);
        check.refuses("one more", STATE, () -> Check.assume(desk, "?xS(x)"));
        desk.wipe();
        check.refuses("one more denied", STATE, () -> Check.deny(desk, "!xS(x)"));
        desk.wipe();
        check.same("none more", Check.assume(desk, "!xS(x)"), 1);
        check.same("none more denied", Check.deny(desk, "?xT(x)"), 1);
        check.same("99", desk.figure(7), 99);
    }

    private static void at() {
        check.words("-1 when there was none, or one of both threw nothing since");
        RefutationDesk desk = new RefutationDesk();
        check.same("none", desk.at(), -1);
        check.refuses("assume", ARGUMENT, () -> Check.assume(desk, "&P"));
        check.same("of assume", desk.at(), 2);
        check.same("asked again", desk.at(), 2);
        desk.wipe();
        check.same("assume threw nothing", Check.assume(desk, "P"), 1);
        check.same("none since", desk.at(), -1);
        check.refuses("claim", ARGUMENT, () -> Check.claim(desk, "P|Q|", -1, 0, 0, 0));
        check.same("of claim", desk.at(), 4);
        desk.wipe();
        check.same("claim threw nothing", Check.claim(desk, "P", -1, 0, 0, 0), 0);
        check.same("none since", desk.at(), -1);
        check.refuses("claim", ARGUMENT, () -> Check.claim(desk, "P|", -1, 0, 0, 0));
        desk.wipe();
        check.same("NONE is no exception", Check.claim(desk, "Q", -1, 0, 0, 0), NONE);
        check.same("none since", desk.at(), -1);
        check.refuses("claim", ARGUMENT, () -> Check.claim(desk, "P|", -1, 0, 0, 0));
        desk.wipe();
        check.same("an assume that keeps none", Check.assume(desk, "P"), 0);
        check.same("none since", desk.at(), -1);
        check.words("the latest text that assume() or claim() refused by an illegal argument");
        check.refuses("claim", ARGUMENT, () -> Check.claim(desk, "P|(", -1, 0, 0, 0));
        check.same("of claim", desk.at(), 2);
        check.refuses("assume of the same text", ARGUMENT, () -> desk.assume(true));
        check.same("the latest", desk.at(), 1);
        desk.wipe();
        check.refuses("another exception of assume", STATE,
                () -> Check.assume(desk, "||||||||AAAAAAAAA"));
        check.same("stays", desk.at(), 1);
        desk.wipe();
        check.refuses("another exception of claim", STATE,
                () -> Check.claim(desk, "A|B|C|D|E", -1, 0, 0, 0));
        check.same("stays", desk.at(), 1);
        check.refuses("one more of claim", INDEX, () -> desk.claim(-1, 1, 0, 0));
        check.same("stays", desk.at(), 1);
        check.refuses("an illegal argument of another call", ARGUMENT, () -> desk.run(51));
        check.same("stays", desk.at(), 1);
        desk.wipe();
        desk.run(50);
        check.same("calls that throw nothing, but for those two", desk.at(), 1);
    }

    private static void state() {
        check.words("SATURATED as long as no clause was taken in");
        RefutationDesk desk = new RefutationDesk();
        check.same("new", desk.state(), RefutationDesk.SATURATED);
        Check.type(desk, "P");
        check.same("a text", desk.state(), RefutationDesk.SATURATED);
        desk.wipe();
        Check.outcome(() -> Check.assume(desk, "||||||||AAAAAAAAA"));
        check.same("a refused text", desk.state(), RefutationDesk.SATURATED);
        desk.wipe();
        Check.assume(desk, "||||ABCDE");
        check.same("one was left out", desk.state(), RefutationDesk.EXHAUSTED);
        check.same("only a true one", desk("|P~P").state(), RefutationDesk.SATURATED);
        check.same("one waits", desk("P").state(), RefutationDesk.OPEN);
    }

    private static void step() {
        check.words("the number of the given clause (also if that is gone at once)");
        RefutationDesk desk = desk("|P(a)P(b)", "!xP(x)");
        check.same("given", desk.step(), 1);
        check.same("gone at once", desk.step(), 0);
        check.same("it is gone", desk.clause(0, 0), 2);
        check.words("IllegalStateException: the state is not OPEN");
        check.refuses("saturated", STATE, () -> desk.step());
        check.same("no step", desk.figure(3), 2);
        check.refuses("new", STATE, () -> new RefutationDesk().step());
        check.refuses("refuted", STATE, () -> Desks.refuted().step());
        check.refuses("exhausted", STATE, () -> Desks.exhausted().step());
        check.refuses("full", STATE, () -> Desks.full().step());
    }

    private static void run() {
        check.words("Steps, as long as the state is OPEN, but at most n: how many.");
        RefutationDesk desk = Desks.with(52);
        check.same("0", desk.run(0), 0);
        check.same("no step", desk.figure(3), 0);
        check.same("1", desk.run(1), 1);
        check.same("50", desk.run(50), 50);
        check.same("one is left", desk.run(50), 1);
        check.same("none is left", desk.run(50), 0);
        check.same("steps", desk.figure(3), 52);
        check.same("new", new RefutationDesk().run(50), 0);
        check.same("refuted", Desks.refuted().run(50), 0);
        check.same("full", Desks.full().run(50), 0);
        check.same("till it is refuted", desk("P", "~P", "Q(a)", "R(a)").run(50), 2);
        RefutationDesk full = Desks.with(98);
        full.run(50);
        full.run(50);
        Check.assume(full, "&!x|~P(x)Q(x)Z");
        check.same("till it is full", full.run(50), 2);
        check.same("full", full.state(), RefutationDesk.FULL);
        check.words("IllegalArgumentException: n is not 0 .. 50");
        for (int n : new int[] {Integer.MIN_VALUE, -1, 51, Integer.MAX_VALUE}) {
            check.refuses("run " + n, ARGUMENT, () -> desk.run(n));
            check.refuses("run " + n, ARGUMENT, () -> Desks.open().run(n));
        }
    }

    private static void print() {
        check.words("OUT becomes the text of clause k (or of line k): how many characters it has.");
        RefutationDesk desk = desk("P", "~P");
        desk.run(50);
        check.same("the shortest", desk.print(false, 0), 1);
        check.same("the empty one", desk.print(false, 2), 1);
        check.same("is 0", desk.out(0), '0');
        RefutationDesk longest = desk("!x~Z(x)");
        String wide = "~Z($99)|~A($98,$97,$96)|~B($95,$94,$93,$92)|~C($91,$90,$89,$88)";
        check.same("four literals", Check.claim(longest, wide, -1, 0, 0, 0), 0);
        check.same("its length", longest.print(true, 0), 63);
        check.same("its text", Check.out(longest, 63), wide);
        String deep = "~Z(" + "$99(".repeat(14) + "$98" + ")".repeat(15);
        check.same("the longest", Check.claim(longest, deep, -1, 0, 0, 0), 1);
        check.same("its length", longest.print(true, 1), 77);
        check.same("its text", Check.out(longest, 77), deep);
        check.refuses("behind it", INDEX, () -> longest.out(77));
        check.words("IndexOutOfBoundsException: there is none.");
        for (int k : new int[] {Integer.MIN_VALUE, -1, 3, 100, Integer.MAX_VALUE}) {
            check.refuses("clause " + k, INDEX, () -> desk.print(false, k));
        }
        for (int k : new int[] {Integer.MIN_VALUE, -1, 0, 1, 2, 24, Integer.MAX_VALUE}) {
            check.refuses("line " + k, INDEX, () -> desk.print(true, k));
        }
        check.same("the last clause", desk.print(false, 2), 1);
        check.refuses("a line, though no clause 1", INDEX, () -> longest.print(false, 1));
        check.same("the last line", longest.print(true, 1), deep.length());
        check.refuses("line 2", INDEX, () -> longest.print(true, 2));
    }

    private static void out() {
        check.words("Character i of OUT. IndexOutOfBoundsException: there is none.");
        RefutationDesk desk = desk("P(a,b)", "Q");
        check.refuses("OUT is empty", INDEX, () -> desk.out(0));
        desk.print(false, 0);
        check.same("the first", desk.out(0), 'P');
        check.same("the last", desk.out(5), ')');
        for (int i : new int[] {Integer.MIN_VALUE, -1, 6, 127, 128, Integer.MAX_VALUE}) {
            check.refuses("out " + i, INDEX, () -> desk.out(i));
        }
        desk.print(false, 1);
        check.same("the first", desk.out(0), 'Q');
        check.refuses("one behind, where OUT had one", INDEX, () -> desk.out(1));
        check.refuses("no clause", INDEX, () -> desk.print(false, 2));
        check.same("OUT stays", desk.out(0), 'Q');
    }

    private static void clauseNumbers() {
        check.words("IndexOutOfBoundsException: there is no such clause;"
                + " IllegalArgumentException: what is not 0 .. 7.");
        RefutationDesk desk = desk("P");
        check.refuses("of a new desk", INDEX, () -> new RefutationDesk().clause(0, 0));
        check.same("the last clause, 0", desk.clause(0, 0), 0);
        check.same("the last clause, 7", desk.clause(0, 7), NONE);
        for (int k : new int[] {Integer.MIN_VALUE, -1, 1, 99, 100, Integer.MAX_VALUE}) {
            check.refuses("clause " + k, INDEX, () -> desk.clause(k, 0));
            check.refuses("clause " + k + ", 8", INDEX, () -> desk.clause(k, 8));
            check.refuses("clause " + k + ", -1", INDEX, () -> desk.clause(k, -1));
        }
        for (int what : new int[] {Integer.MIN_VALUE, -1, 8, Integer.MAX_VALUE}) {
            check.refuses("what " + what, ARGUMENT, () -> desk.clause(0, what));
        }
        RefutationDesk full = Desks.full();
        check.same("clause 99", full.clause(99, 2), 2);
        check.refuses("clause 100", INDEX, () -> full.clause(100, 2));
    }

    private static void origin(RefutationDesk desk, int k, int... due) {
        for (int what = 0; what < due.length; what++) {
            check.same("clause " + k + ", " + what, desk.clause(k, what), due[what]);
        }
    }

    private static void clauseOrigins() {
        check.words("of these 4: the clause C, 5: i, 6: the clause D (of a factor C), 7: j,"
                + " NONE of a row");
        RefutationDesk desk = desk("!x!y|||A~P(x)B~P(y)");
        origin(desk, 0, 0, 4, 6, 0, NONE, NONE, NONE, NONE);
        desk.step();
        check.same("the factor", Check.clauseText(desk, 1), "A|~P(x)|B");
        origin(desk, 1, 0, 3, 4, 1, 0, 1, 0, 3);
        desk.step();
        origin(desk, 0, 2, 4);
        Check.assume(desk, "|QP(a)");
        desk.step();
        check.same("the resolvent", Check.clauseText(desk, 3), "Q|A|B");
        origin(desk, 3, 0, 3, 3, 2, 2, 1, 1, 1);
        RefutationDesk refuted = desk("P", "~P");
        refuted.run(50);
        check.words("1: how many literals, 2: its weight");
        origin(refuted, 2, 0, 0, 0, 2, 1, 0, 0, 0);
    }

    private static void subsumes() {
        check.words("Whether clause k subsumes clause m."
                + " IndexOutOfBoundsException: there is no such clause.");
        RefutationDesk desk = desk("P", "~P");
        desk.run(50);
        check.same("the empty one all", desk.subsumes(2, 0) && desk.subsumes(2, 2) ? 1 : 0, 1);
        check.same("none the empty one", desk.subsumes(0, 2) || desk.subsumes(1, 2) ? 1 : 0, 0);
        check.same("each itself", desk.subsumes(0, 0) && desk.subsumes(1, 1) ? 1 : 0, 1);
        for (int k : new int[] {Integer.MIN_VALUE, -1, 3, 100, Integer.MAX_VALUE}) {
            check.refuses("subsumes " + k + " 0", INDEX, () -> desk.subsumes(k, 0) ? 1 : 0);
            check.refuses("subsumes 0 " + k, INDEX, () -> desk.subsumes(0, k) ? 1 : 0);
            check.refuses("subsumes " + k + " twice", INDEX, () -> desk.subsumes(k, k) ? 1 : 0);
        }
        check.refuses("of a new desk", INDEX, () -> new RefutationDesk().subsumes(0, 0) ? 1 : 0);
        check.same("one that is gone", goneSubsumes() ? 1 : 0, 1);
    }

    private static boolean goneSubsumes() {
        RefutationDesk desk = desk("P(a)", "!xP(x)");
        desk.run(50);
        return desk.clause(0, 0) == 2 && desk.subsumes(1, 0) && !desk.subsumes(0, 1)
                && desk.subsumes(0, 0);
    }

    private static void proof() {
        check.words("How many clauses there are, itself too, of which the empty one comes");
        RefutationDesk least = desk("P", "~P");
        least.run(50);
        check.same("the least", least.proof(), 3);
        RefutationDesk once = desk("!x!y|P(x)P(y)", "!x!y|~P(x)~P(y)");
        once.run(50);
        check.same("two rows, two factors, the empty one", once.proof(), 5);
        RefutationDesk others = desk("&A&B&C&D&E&F~A");
        others.run(50);
        check.same("no others", others.proof(), 3);
        check.words("NONE when there is no empty one");
        check.same("new", new RefutationDesk().proof(), NONE);
        check.same("open", Desks.open().proof(), NONE);
        check.same("full", Desks.full().proof(), NONE);
        RefutationDesk line = desk("P", "~P");
        Check.claim(line, "P", -1, 0, 0, 0);
        Check.claim(line, "~P", -1, 1, 0, 0);
        check.same("an empty line", Check.claim(line, "0", 0, 0, 1, 0), 2);
        check.same("is no clause", line.proof(), NONE);
        check.same("nor a refutation", line.state(), RefutationDesk.OPEN);
    }

    private static void claimedRow() {
        check.words("for a = -1 clause i, which is a row");
        RefutationDesk desk = desk("P", "|~PQ");
        desk.run(50);
        check.same("the resolvent", Check.clauseText(desk, 2), "Q");
        check.same("b and j are not looked at", Check.claim(desk, "P", -1, 0,
                Integer.MAX_VALUE, Integer.MIN_VALUE), 0);
        check.same("the last row", Check.claim(desk, "~P|Q", -1, 1, -1, -1), 1);
        check.same("not so", Check.claim(desk, "Q", -1, 1, 0, 0), NONE);
        check.same("the text has no characters then", desk.wipe(), 0);
        check.words("IndexOutOfBoundsException: there is no such row, line or literal");
        Check.type(desk, "Q");
        for (int i : new int[] {Integer.MIN_VALUE, -1, 2, 3, 100, Integer.MAX_VALUE}) {
            check.refuses("row " + i, INDEX, () -> desk.claim(-1, i, 0, 0));
        }
        check.same("the text stays", desk.wipe(), 1);
        check.refuses("of a new desk", INDEX,
                () -> Check.claim(new RefutationDesk(), "P", -1, 0, 0, 0));
    }

    private static void claimedFactor() {
        check.words("for b = -1 the factor of line a by i and j");
        RefutationDesk desk = desk("!x!y|||P(x)P(y)~Q(x)R");
        Check.claim(desk, "P(x)|P(y)|~Q(x)|R", -1, 0, 0, 0);
        check.same("by 0 and 1", Check.claim(desk, "P(x)|~Q(x)|R", 0, 0, -1, 1), 1);
        check.same("by 1 and 0", Check.claim(desk, "R|P(x)|~Q(x)", 0, 1, -1, 0), 2);
        check.same("not alike", Check.claim(desk, "P(x)|P(y)|~Q(x)|R", 0, 0, -1, 3), NONE);
        check.same("with ~ and without", Check.claim(desk, "P(x)|R", 0, 0, -1, 2), NONE);
        check.words("or, for a factor, i is j");
        Check.type(desk, "P(x)|P(y)|~Q(x)|R");
        for (int i = 0; i < 4; i++) {
            int same = i;
            check.refuses(i + " is " + i, INDEX, () -> desk.claim(0, same, -1, same));
        }
        check.words("no such row, line or literal");
        check.refuses("i -1", INDEX, () -> desk.claim(0, -1, -1, 0));
        check.refuses("i 4", INDEX, () -> desk.claim(0, 4, -1, 0));
        check.refuses("j -1", INDEX, () -> desk.claim(0, 0, -1, -1));
        check.refuses("j 4", INDEX, () -> desk.claim(0, 0, -1, 4));
        check.refuses("line 3", INDEX, () -> desk.claim(3, 0, -1, 1));
        check.refuses("line -2", INDEX, () -> desk.claim(-2, 0, -1, 1));
        check.same("the last literal is there", desk.claim(0, 3, -1, 0), NONE);
    }

    private static void claimedResolvent() {
        check.words("else the resolvent of line a by i with line b by j");
        RefutationDesk desk = desk("|PQ", "|~PR", "!x|S(x)~S(f(x))");
        Check.claim(desk, "P|Q", -1, 0, 0, 0);
        Check.claim(desk, "~P|R", -1, 1, 0, 0);
        Check.claim(desk, "S(x)|~S(f(x))", -1, 2, 0, 0);
        check.same("0 with 1", Check.claim(desk, "Q|R", 0, 0, 1, 0), 3);
        check.same("1 with 0", Check.claim(desk, "Q|R", 1, 0, 0, 0), 4);
        check.same("a line with itself", Check.claim(desk, "~S(f(f(x)))|S(x)", 2, 0, 2, 1), 5);
        check.same("i may be j", Check.claim(desk, "Q|R", 0, 0, 1, 0), 6);
        check.words("NONE when that is not so (also when there is no such factor or resolvent,"
                + " as the literals can not be made alike)");
        check.same("both without ~", Check.claim(desk, "Q|R", 0, 1, 1, 1), NONE);
        check.same("other letters", Check.claim(desk, "P|R", 0, 1, 1, 0), NONE);
        check.same("a literal with itself", Check.claim(desk, "P|Q", 0, 0, 0, 0), NONE);
        check.same("too little", Check.claim(desk, "Q", 0, 0, 1, 0), NONE);
        check.same("The text has no characters then", desk.wipe(), 0);
        check.same("lines", desk.figure(8), 7);
        check.words("no such row, line or literal");
        Check.type(desk, "Q|R");
        check.refuses("a 7", INDEX, () -> desk.claim(7, 0, 1, 0));
        check.refuses("a -2", INDEX, () -> desk.claim(-2, 0, 1, 0));
        check.refuses("b 7", INDEX, () -> desk.claim(0, 0, 7, 0));
        check.refuses("b -2", INDEX, () -> desk.claim(0, 0, -2, 0));
        check.refuses("i 2", INDEX, () -> desk.claim(0, 2, 1, 0));
        check.refuses("i -1", INDEX, () -> desk.claim(0, -1, 1, 0));
        check.refuses("j 2", INDEX, () -> desk.claim(0, 0, 1, 2));
        check.refuses("j -1", INDEX, () -> desk.claim(0, 0, 1, -1));
        check.same("the text stays", desk.wipe(), 3);
        RefutationDesk empty = desk("P", "~P");
        Check.claim(empty, "P", -1, 0, 0, 0);
        Check.claim(empty, "~P", -1, 1, 0, 0);
        Check.claim(empty, "0", 0, 0, 1, 0);
        check.refuses("the empty line has no literal", INDEX,
                () -> Check.claim(empty, "P", 2, 0, 0, 0));
    }

    private static void claimedNoClause() {
        check.words("IllegalArgumentException: it is no clause");
        for (String text : new String[] {"", "00", "P|", "&PQ", "~~P", "P(x", "P($0)", "!xP(x)"}) {
            RefutationDesk desk = desk("P");
            Check.type(desk, text);
            check.refuses("claim " + text, ARGUMENT, () -> desk.claim(-1, 0, 0, 0));
            check.refuses("claim " + text + " by no row", ARGUMENT, () -> desk.claim(-1, 9, 0, 0));
            check.same("the text stays", desk.wipe(), text.length());
            check.same("no line", desk.figure(8), 0);
        }
    }

    private static void claimedUnfit() {
        check.words("IllegalStateException: the text's clause does not fit");
        RefutationDesk desk = desk("P");
        check.same("four literals", Check.claim(desk, "P|A|B|C", -1, 0, 0, 0), 0);
        check.refuses("five", STATE, () -> Check.claim(desk, "P|A|B|C|D", -1, 0, 0, 0));
        desk.wipe();
        check.same("five that are four", Check.claim(desk, "P|A|B|C|P", -1, 0, 0, 0), 1);
        check.same("made normal", Check.lineText(desk, 1), "P|A|B|C");
        check.same("16", Check.claim(desk, "P|A(a,a,a,a,a,a,a,a,a,a,a,a,a,a)", -1, 0, 0, 0), 2);
        check.refuses("17", STATE,
                () -> Check.claim(desk, "P|A(a,a,a,a,a,a,a,a,a,a,a,a,a,a,a)", -1, 0, 0, 0));
        desk.wipe();
        check.refuses("17, not subsumed", STATE,
                () -> Check.claim(desk, "Q|A(a,a,a,a,a,a,a,a,a,a,a,a,a,a,a)", -1, 0, 0, 0));
        check.same("the text stays", desk.wipe(), 34);
        check.same("the empty one fits", Check.claim(desk, "0", -1, 0, 0, 0), NONE);
        check.same("one of opposites may be a line", Check.claim(desk, "P|~P", -1, 0, 0, 0), 3);
    }

    private static void claimedLines() {
        check.words("or there are 24 lines");
        RefutationDesk desk = desk("P");
        for (int n = 0; n < 23; n++) {
            check.same("its number", Check.claim(desk, "P", -1, 0, 0, 0), n);
        }
        check.same("not so", Check.claim(desk, "Q", -1, 0, 0, 0), NONE);
        check.same("the last", Check.claim(desk, "P|Q", -1, 0, 0, 0), 23);
        check.same("24", desk.figure(8), 24);
        check.refuses("one more", STATE, () -> Check.claim(desk, "P", -1, 0, 0, 0));
        check.same("the text stays", desk.wipe(), 1);
        check.refuses("one more that is not so", STATE, () -> Check.claim(desk, "Q", -1, 0, 0, 0));
        check.same("24", desk.figure(8), 24);
        check.same("the last", Check.lineText(desk, 23), "P|Q");
        check.refuses("line 24", INDEX, () -> desk.print(true, 24));
    }

    private static void figure() {
        check.words("IllegalArgumentException: what is none of these.");
        RefutationDesk desk = Desks.open();
        int[] due = {5, 2, 3, 3, 1, 1, 1, 1, 3};
        for (int what = 0; what <= 8; what++) {
            check.same("figure " + what, desk.figure(what), due[what]);
        }
        for (int what : new int[] {Integer.MIN_VALUE, -1, 9, Integer.MAX_VALUE}) {
            check.refuses("figure " + what, ARGUMENT, () -> desk.figure(what));
        }
        check.words("0: how many clauses are kept");
        check.same("the most", Desks.full().figure(0), 100);
        check.words("7: how many new functions there are");
        check.same("the most", Desks.withFunctions(99).figure(7), 99);
        check.words("8: how many lines");
        check.same("the most", Desks.withAllLines().figure(8), 24);
    }
}
