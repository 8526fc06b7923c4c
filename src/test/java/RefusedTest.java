/** "A call that throws changes nothing but what at() tells": every refused call of every method. */
public final class RefusedTest {
    private static final Class<IllegalArgumentException> ARGUMENT = IllegalArgumentException.class;
    private static final Class<IllegalStateException> STATE = IllegalStateException.class;
    private static final Class<IndexOutOfBoundsException> INDEX = IndexOutOfBoundsException.class;
    private static final Class<UnsupportedOperationException> UNSUPPORTED =
            UnsupportedOperationException.class;

    private static final Check check = new Check();

    public static void main(String[] args) {
        desksAreAsNamed();
        check.words("A call that throws changes nothing but what at() tells");
        onEveryDesk("a new desk", RefutationDesk::new);
        onEveryDesk("an open desk", Desks::open);
        onEveryDesk("a refuted desk", Desks::refuted);
        onEveryDesk("a saturated desk", Desks::saturated);
        onEveryDesk("an exhausted desk", Desks::exhausted);
        onEveryDesk("a full desk", Desks::full);
        onEveryDesk("a desk with all lines", Desks::withAllLines);
        typing();
        assuming();
        stepping();
        claimingOnAnOpenDesk();
        claimingBeyondTheLastLine();
        severalExceptions();
        check.end("RefusedTest");
    }

    private static void desksAreAsNamed() {
        check.same("a new desk", new RefutationDesk().state(), RefutationDesk.SATURATED);
        check.same("an open desk", Desks.open().state(), RefutationDesk.OPEN);
        check.same("a refuted desk", Desks.refuted().state(), RefutationDesk.REFUTED);
        check.same("a saturated desk", Desks.saturated().state(), RefutationDesk.SATURATED);
        check.same("an exhausted desk", Desks.exhausted().state(), RefutationDesk.EXHAUSTED);
        check.same("a full desk", Desks.full().state(), RefutationDesk.FULL);
        check.same("all lines", Desks.withAllLines().figure(8), 24);
        check.same("functions", Desks.withFunctions(98).figure(7), 98);
        check.same("its last clause is drawn", Desks.open().clause(4, 3), 2);
        check.same("it is the last", Desks.open().figure(0), 5);
    }

    private static Refusal withText(String desk, Refusal.Maker maker, String text) {
        return new Refusal(check, desk + " with " + text, () -> Desks.typed(maker.make(), text));
    }

    /** H(a) is a formula and a clause, so that it shows if the text is changed. */
    private static void onEveryDesk(String name, Refusal.Maker maker) {
        Refusal refusal = withText(name, maker, "H(a)");
        wrongBytes(refusal);
        wrongNumbers(refusal);
        RefutationDesk desk = maker.make();
        wrongClauses(refusal, desk.figure(0));
        wrongLines(refusal, desk.figure(8));
        withText(name, maker, "").of("assume", ARGUMENT, 0, d -> d.assume(false));
        withText(name, maker, "").of("assume denied", ARGUMENT, 0, d -> d.assume(true));
        withText(name, maker, "").of("claim", ARGUMENT, 0, d -> d.claim(-1, 0, 0, 0));
        withText(name, maker, "&H(a)").of("assume", ARGUMENT, 5, d -> d.assume(false));
        withText(name, maker, "?x?yH(z)").of("assume", ARGUMENT, 6, d -> d.assume(false));
        withText(name, maker, "H(a)|").of("claim", ARGUMENT, 5, d -> d.claim(-1, 0, 0, 0));
    }

    private static void wrongBytes(Refusal refusal) {
        refusal.of("type 1", ARGUMENT, d -> d.type(1));
        refusal.of("type 32", ARGUMENT, d -> d.type(32));
        refusal.of("type 127", ARGUMENT, d -> d.type(127));
        refusal.of("type 255", ARGUMENT, d -> d.type(255));
        refusal.of("type -1", ARGUMENT, d -> d.type(-1));
        refusal.of("type P and 32", ARGUMENT, d -> d.type(0x2050));
        refusal.of("type seven and 127", ARGUMENT, d -> d.type(0x7f50505050505050L));
    }

    private static void wrongNumbers(Refusal refusal) {
        refusal.of("run -1", ARGUMENT, d -> d.run(-1));
        refusal.of("run 51", ARGUMENT, d -> d.run(51));
        refusal.of("run least", ARGUMENT, d -> d.run(Integer.MIN_VALUE));
        refusal.of("run most", ARGUMENT, d -> d.run(Integer.MAX_VALUE));
        refusal.of("figure -1", ARGUMENT, d -> d.figure(-1));
        refusal.of("figure 9", ARGUMENT, d -> d.figure(9));
        refusal.of("out -1", INDEX, d -> d.out(-1));
        refusal.of("out 128", INDEX, d -> d.out(128));
        refusal.of("out most", INDEX, d -> d.out(Integer.MAX_VALUE));
    }

    private static void wrongClauses(Refusal refusal, int count) {
        for (int k : new int[] {Integer.MIN_VALUE, -1, count, 100, Integer.MAX_VALUE}) {
            refusal.of("print clause " + k, INDEX, d -> d.print(false, k));
            refusal.of("clause " + k, INDEX, d -> d.clause(k, 0));
            refusal.of("clause, both wrong, " + k, INDEX, d -> d.clause(k, 8));
            refusal.of("subsumes " + k + " 0", INDEX, d -> d.subsumes(k, 0) ? 1 : 0);
            refusal.of("subsumes 0 " + k, INDEX, d -> d.subsumes(0, k) ? 1 : 0);
            refusal.of("claim row " + k, INDEX, d -> d.claim(-1, k, 0, 0));
        }
        if (count > 0) {
            for (int what : new int[] {Integer.MIN_VALUE, -1, 8, Integer.MAX_VALUE}) {
                refusal.of("clause, what " + what, ARGUMENT, d -> d.clause(0, what));
            }
        }
    }

    private static void wrongLines(Refusal refusal, int count) {
        for (int k : new int[] {Integer.MIN_VALUE, -2, count, 24, Integer.MAX_VALUE}) {
            refusal.of("print line " + k, INDEX, d -> d.print(true, k));
            refusal.of("claim line " + k, INDEX, d -> d.claim(k, 0, 0, 0));
            refusal.of("claim factor of line " + k, INDEX, d -> d.claim(k, 0, -1, 1));
            refusal.of("claim by line " + k, INDEX, d -> d.claim(0, 0, k, 0));
        }
        refusal.of("print line -1", INDEX, d -> d.print(true, -1));
    }

    private static void typing() {
        Refusal.Maker open = Desks::open;
        String most = "~".repeat(160);
        withText("an open desk", open, most).of("161", UNSUPPORTED, d -> d.type('P'));
        withText("an open desk", open, most).of("168", UNSUPPORTED,
                d -> d.type(Check.packed("PPPPPPPP")));
        withText("an open desk", open, most.substring(1)).of("159 and 2", UNSUPPORTED,
                d -> d.type(Check.packed("PP")));
        withText("an open desk", open, most.substring(7)).of("153 and 8", UNSUPPORTED,
                d -> d.type(Check.packed("PPPPPPPP")));
        withText("an open desk", open, most).of("161, a wrong one", ARGUMENT, d -> d.type(32));
    }

    private static void assuming() {
        String rows = "&A|&AB|&CD|&EF&GH";
        String literals = "||||||||AAAAAAAAA";
        String denied = "|~A&|AB&|CD&|EF|GH";
        String function = "?xH(x)";
        Refusal.Maker[] makers = {
            RefutationDesk::new, Desks::open, Desks::refuted, Desks::exhausted, Desks::full,
        };
        for (Refusal.Maker maker : makers) {
            withText("a desk", maker, rows).of("17 rows", STATE, d -> d.assume(false));
            withText("a desk", maker, denied).of("17 rows", STATE, d -> d.assume(true));
            withText("a desk", maker, literals).of("9 literals", STATE, d -> d.assume(false));
            withText("a desk", maker, "&?x?yH(x)" + literals).of("9 and functions", STATE,
                    d -> d.assume(false));
        }
        withText("99 functions", () -> Desks.withFunctions(99), function).of("100", STATE,
                d -> d.assume(false));
        withText("98 functions", () -> Desks.withFunctions(98), "&H(a)?x" + function).of("100",
                STATE, d -> d.assume(false));
        withText("99 functions", () -> Desks.withFunctions(99), "!xH(x)").of("100 denied", STATE,
                d -> d.assume(true));
    }

    private static void stepping() {
        Refusal.Maker[] makers = {
            RefutationDesk::new, Desks::refuted, Desks::saturated, Desks::exhausted, Desks::full,
        };
        for (Refusal.Maker maker : makers) {
            int state = maker.make().state();
            withText("a desk of state " + state, maker, "H(a)").of("step", STATE, d -> d.step());
        }
    }

    /** Line 0 has two literals, lines 1 and 2 have one; the last clause is drawn. */
    private static void claimingOnAnOpenDesk() {
        RefutationDesk open = Desks.open();
        check.same("lines", open.figure(8), 3);
        Refusal refusal = withText("an open desk", Desks::open, "H(a)");
        for (int k = 0; k < open.figure(0); k++) {
            int i = k;
            if (open.clause(k, 3) != 0) {
                refusal.of("clause " + k + " is no row", INDEX, d -> d.claim(-1, i, 0, 0));
            }
        }
        for (int i : new int[] {Integer.MIN_VALUE, -1, 2, Integer.MAX_VALUE}) {
            refusal.of("literal i " + i, INDEX, d -> d.claim(0, i, 1, 0));
            refusal.of("factor, i " + i, INDEX, d -> d.claim(0, i, -1, 0));
            refusal.of("factor, j " + i, INDEX, d -> d.claim(0, 0, -1, i));
            refusal.of("literal j " + i, INDEX, d -> d.claim(1, 0, 0, i));
        }
        refusal.of("factor, 0 is 0", INDEX, d -> d.claim(0, 0, -1, 0));
        refusal.of("factor, 1 is 1", INDEX, d -> d.claim(0, 1, -1, 1));
        String heavy = "H(a)|H(" + "f(".repeat(13) + "a" + ")".repeat(14);
        withText("an open desk", Desks::open, heavy).of("weight 17", STATE,
                d -> d.claim(-1, 1, 0, 0));
        withText("an open desk", Desks::open, "H(a)|A|B|C|D").of("five literals", STATE,
                d -> d.claim(-1, 1, 0, 0));
        withText("an open desk", Desks::open, "A|B|C|D|E").of("five, not so", STATE,
                d -> d.claim(0, 0, 1, 0));
    }

    private static void claimingBeyondTheLastLine() {
        for (String text : new String[] {"H(a)", "H(b)", "0", "H(a)|A|B|C|D"}) {
            Refusal refusal = withText("a desk with all lines", Desks::withAllLines, text);
            refusal.of("a row", STATE, d -> d.claim(-1, 0, 0, 0));
            refusal.of("a resolvent", STATE, d -> d.claim(0, 0, 23, 0));
            refusal.of("a factor, 0 is 0", INDEX, d -> d.claim(0, 0, -1, 0));
        }
    }

    private static void severalExceptions() {
        check.words("of several exceptions that fit the one named first is thrown");
        Refusal.Maker open = Desks::open;
        Refusal.Maker last = Desks::withAllLines;
        withText("a desk", open, "~".repeat(159)).of("too many, the last wrong", ARGUMENT,
                d -> d.type(0x205050));
        withText("a desk", open, "~".repeat(160)).of("too many, all wrong", ARGUMENT,
                d -> d.type(-1));
        withText("a desk", open, "||||||||AAAAAAAAAA").of("9 literals, no formula", ARGUMENT, 17,
                d -> d.assume(false));
        withText("a desk", open, "&A|&AB|&CD|&EF&G").of("no formula, 17 rows to come", ARGUMENT,
                16, d -> d.assume(false));
        withText("99 functions", () -> Desks.withFunctions(99), "?xH(x").of("no formula", ARGUMENT,
                5, d -> d.assume(false));
        withText("a desk", open, "A").of("no clause k, wrong what", INDEX, d -> d.clause(-1, -1));
        withText("a desk", open, "A|B|C|D|E|").of("no clause, no line", ARGUMENT, 10,
                d -> d.claim(9, 9, 9, 9));
        withText("a desk", open, "A|B|C|D|E").of("unfit, no line", INDEX,
                d -> d.claim(9, 9, 9, 9));
        withText("a desk", open, "A|B|C|D|E").of("unfit, no row", INDEX,
                d -> d.claim(-1, 9, 0, 0));
        withText("24 lines", last, "H(a").of("no clause", ARGUMENT, 3, d -> d.claim(-1, 0, 0, 0));
        withText("24 lines", last, "H(a)").of("no row", INDEX, d -> d.claim(-1, 1, 0, 0));
        withText("24 lines", last, "H(a)").of("no line", INDEX, d -> d.claim(24, 0, 0, 0));
    }
}
