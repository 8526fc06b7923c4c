/** Promises 6, 7 and 8: state, step and run. */
public final class StepTest {
    private static final Check check = new Check();

    public static void main(String[] args) {
        states();
        given();
        subsumed();
        orderOfDrawing();
        factors();
        withItself();
        notAlike();
        tooHeavy();
        theEmptyOneEnds();
        runs();
        fullStep();
        check.end("StepTest");
    }

    private static void states() {
        RefutationDesk desk = new RefutationDesk();
        check.same("new", desk.state(), RefutationDesk.SATURATED);
        Check.assume(desk, "|P~P");
        check.same("only a true one", desk.state(), RefutationDesk.SATURATED);
        Check.assume(desk, "P");
        check.same("one waits", desk.state(), RefutationDesk.OPEN);
        check.same("step", desk.step(), 0);
        check.same("none waits", desk.state(), RefutationDesk.SATURATED);
        Check.assume(desk, "||||ABCDE");
        check.same("one was left out", desk.state(), RefutationDesk.EXHAUSTED);
        Check.assume(desk, "Q");
        check.same("open again", desk.state(), RefutationDesk.OPEN);
        desk.step();
        check.same("left out once is enough", desk.state(), RefutationDesk.EXHAUSTED);
        Check.deny(desk, "Q");
        desk.step();
        check.same("refuted", desk.state(), RefutationDesk.REFUTED);
        check.same("the empty one waits", desk.clause(3, 0), 0);
        check.refuses("step", IllegalStateException.class, () -> desk.step());
        check.same("all is known then", Check.assume(desk, "&R&S||||ABCDE"), 0);
        check.same("known", desk.figure(6), 2);
        check.same("left out", desk.figure(4), 2);
        check.same("still refuted", desk.state(), RefutationDesk.REFUTED);

        RefutationDesk first = new RefutationDesk();
        Check.assume(first, "||||ABCDE");
        check.same("left out at first", first.state(), RefutationDesk.EXHAUSTED);
        check.refuses("step", IllegalStateException.class, () -> first.step());
        check.same("no step was done", first.figure(3), 0);
    }

    /** Least weight and number; in the fourth, eighth, .. step the least number. */
    private static void given() {
        RefutationDesk desk = new RefutationDesk();
        Check.assume(desk, "&A(a,a,a)&B(a,a)&C(a)&DE");
        Check.assume(desk, "&F&GH");
        check.same("step 1", desk.step(), 3);
        check.same("step 2", desk.step(), 4);
        check.same("step 3", desk.step(), 5);
        check.same("step 4", desk.step(), 0);
        check.same("step 5", desk.step(), 6);
        check.same("step 6", desk.step(), 7);
        check.same("step 7", desk.step(), 2);
        Check.assume(desk, "&I(a,a)J");
        check.same("step 8", desk.step(), 1);
        check.same("step 9", desk.step(), 9);
        check.same("step 10", desk.step(), 8);
        check.same("all are given", desk.state(), RefutationDesk.SATURATED);
        Check.assume(desk, "&K(a)L");
        check.same("step 11", desk.step(), 11);
        Check.assume(desk, "M");
        check.same("step 12", desk.step(), 10);
        check.same("steps", desk.figure(3), 12);
    }

    private static void subsumed() {
        RefutationDesk desk = new RefutationDesk();
        Check.assume(desk, "&Q(a)!x|Q(x)P(x)");
        check.same("both kept", desk.figure(0), 2);
        check.same("the light one", desk.step(), 0);
        check.same("the heavy one", desk.step(), 1);
        check.same("both are active", desk.figure(2), 2);
        Check.assume(desk, "!xQ(x)");
        check.same("the new one", desk.step(), 2);
        check.same("the first is gone", desk.clause(0, 0), 2);
        check.same("the second is gone", desk.clause(1, 0), 2);
        check.same("the third is active", desk.clause(2, 0), 1);

        RefutationDesk waiting = new RefutationDesk();
        Check.assume(waiting, "&R(a,b)!xR(x,b)");
        Check.assume(waiting, "!x!yR(x,y)");
        check.same("all are kept", waiting.figure(0), 3);
        check.same("the first", waiting.step(), 0);
        check.same("the second", waiting.step(), 1);
        check.same("the first is gone", waiting.clause(0, 0), 2);
        check.same("the third waits", waiting.clause(2, 0), 0);

        RefutationDesk gone = new RefutationDesk();
        Check.assume(gone, "|P(a)P(b)");
        Check.assume(gone, "!xP(x)");
        check.same("the light one", gone.step(), 1);
        check.same("a waiting one stays", gone.clause(0, 0), 0);
        check.same("given", gone.step(), 0);
        check.same("gone at once", gone.clause(0, 0), 2);
        check.same("nothing is drawn", gone.figure(0), 2);
        check.same("it is a step", gone.figure(3), 2);
        check.same("one that is gone knows nothing", Check.assume(gone, "||P(a)P(b)Q"), 0);
        check.same("the active one does", gone.figure(6), 1);
    }

    /** Factors first, then resolvents with each active clause, by number, by i, by j. */
    private static void orderOfDrawing() {
        RefutationDesk desk = new RefutationDesk();
        Check.assume(desk, "~P(a)");
        check.same("first", desk.step(), 0);
        Check.assume(desk, "~P(b)");
        check.same("second", desk.step(), 1);
        Check.assume(desk, "!x!y|P(x)P(y)");
        check.same("third", desk.step(), 2);
        check.same("clauses", Check.clauses(desk), "~P(a) ~P(b) P(x)|P(y) P(x)");
        check.same("the factor", origin(desk, 3), "1 2 0 2 1");
        check.same("the resolvents are known", desk.figure(6), 4);

        RefutationDesk more = new RefutationDesk();
        Check.assume(more, "!x|~P(x)Q(x)");
        more.step();
        Check.assume(more, "!x|~P(x)R(x)");
        more.step();
        Check.assume(more, "!x!y||~P(x)~P(y)S(x,y)");
        more.run(2);
        check.same("a factor", Check.clauseText(more, 3), "~P(x)|S(x,x)");
        Check.assume(more, "|P(a)P(b)");
        check.same("fifth", more.step(), 4);
        String[] due = {
            "P(b)|Q(a) 2 4 0 0 0", "P(a)|Q(b) 2 4 1 0 0", "P(b)|R(a) 2 4 0 1 0",
            "P(a)|R(b) 2 4 1 1 0", "P(b)|~P(x)|S(a,x) 2 4 0 2 0", "P(b)|~P(x)|S(x,a) 2 4 0 2 1",
            "P(a)|~P(x)|S(b,x) 2 4 1 2 0", "P(a)|~P(x)|S(x,b) 2 4 1 2 1", "P(b)|S(a,a) 2 4 0 3 0",
            "P(a)|S(b,b) 2 4 1 3 0",
        };
        check.same("kept", more.figure(0), 5 + due.length);
        for (int k = 0; k < due.length; k++) {
            check.same("drawn", Check.clauseText(more, 5 + k) + " " + origin(more, 5 + k), due[k]);
        }
        check.same("none is known", more.figure(6), 0);
    }

    private static void factors() {
        RefutationDesk desk = new RefutationDesk();
        Check.assume(desk, "!x!y!z||P(x,a)P(b,y)P(z,c)");
        desk.step();
        check.same("factors", Check.clauses(desk),
                "P(x,a)|P(b,y)|P(z,c) P(b,a)|P(x,c) P(x,a)|P(b,c)");
        check.same("by 0 and 1", origin(desk, 1), "1 0 0 0 1");
        check.same("by 1 and 2", origin(desk, 2), "1 0 1 0 2");

        RefutationDesk order = new RefutationDesk();
        Check.assume(order, "!x||R(x)~R(b)R(a)");
        order.step();
        check.same("literal j goes", Check.clauseText(order, 1), "R(a)|~R(b)");
        check.same("not with the denied one", order.figure(0), 2);

        RefutationDesk shared = new RefutationDesk();
        Check.assume(shared, "!x!y||R(x,y)R(y,f(x))Q(x)");
        shared.step();
        check.same("a variable is not in its own term", shared.figure(0), 1);
        check.same("so nothing is left out", shared.figure(4), 0);

        RefutationDesk same = new RefutationDesk();
        Check.assume(same, "!x!y|R(x,y)R(x,f(x))");
        same.step();
        check.same("a variable is alike itself", Check.clauseText(same, 1), "R(x,f(x))");
    }

    private static void withItself() {
        RefutationDesk desk = new RefutationDesk();
        Check.assume(desk, "!x>P(x)P(f(x))");
        desk.step();
        check.same("clauses", Check.clauses(desk), "~P(x)|P(f(x)) P(f(f(x)))|~P(x)");
        check.same("by 0 with 1", origin(desk, 1), "2 0 0 0 1");
        check.same("by 1 with 0 is known", desk.figure(6), 1);
    }

    /** Resolvents with more than four literals, or a weight above 16, are left out. */
    private static void tooHeavy() {
        RefutationDesk literals = new RefutationDesk();
        Check.assume(literals, "|||ABCD");
        Check.assume(literals, "|||~AEFG");
        check.same("two steps", literals.run(2), 2);
        check.same("six literals", literals.figure(4), 1);
        check.same("nothing more is kept", literals.figure(0), 2);
        check.same("exhausted", literals.state(), RefutationDesk.EXHAUSTED);

        RefutationDesk shared = new RefutationDesk();
        Check.assume(shared, "|||ABCD");
        Check.assume(shared, "|||~ABCE");
        shared.run(2);
        check.same("six that are four", Check.clauseText(shared, 2), "B|C|E|D");
        check.same("none is left out", shared.figure(4), 0);

        RefutationDesk grown = new RefutationDesk();
        Check.assume(grown, "!xP(x,g(x,x))");
        Check.assume(grown, "!x!y>P(x,y)Q(y,y,y,y)");
        grown.run(2);
        check.same("weight 13", Check.clauseText(grown, 2), "Q(g(x,x),g(x,x),g(x,x),g(x,x))");
        Check.assume(grown, "!x!y>P(x,y)R(g(y,y),y,y,y)");
        grown.run(2);
        check.same("weight 17", grown.figure(4), 1);
        check.same("nothing more is kept", grown.figure(0), 4);
        Check.assume(grown, "!x!y>P(x,y)S(g(y,y),y,y)");
        grown.run(1);
        check.same("weight 14", Check.clauseText(grown, 5),
                "S(g(g(x,x),g(x,x)),g(x,x),g(x,x))");
        Check.assume(grown, "!x!y>P(x,y)|S(y,y)T(y,y)");
        grown.run(2);
        check.same("weight 14 of two", Check.clauseText(grown, 7),
                "S(g(x,x),g(x,x))|T(g(x,x),g(x,x))");
        Check.assume(grown, "!x!y>P(x,y)|S(y,y,y)U(y,y)");
        grown.run(2);
        check.same("weight 17 of two", grown.figure(4), 2);
    }

    private static void notAlike() {
        RefutationDesk desk = new RefutationDesk();
        Check.assume(desk, "&P(a)&~P(b)&~P(a,a)&~Q(a)!x~P(f(x))");
        check.same("steps", desk.run(50), 5);
        check.same("nothing is drawn", desk.figure(0), 5);
        check.same("nothing is known", desk.figure(6), 0);
        check.same("saturated", desk.state(), RefutationDesk.SATURATED);

        RefutationDesk own = new RefutationDesk();
        Check.assume(own, "&!xP(x,x)!x~P(x,f(x))");
        check.same("steps", own.run(50), 2);
        check.same("a variable is not in its own term", own.state(), RefutationDesk.SATURATED);
        check.same("clauses", own.figure(0), 2);
    }

    private static void theEmptyOneEnds() {
        RefutationDesk desk = new RefutationDesk();
        Check.assume(desk, "&P(a)&P(b)P(c)");
        desk.run(3);
        Check.deny(desk, "?xP(x)");
        check.same("given", desk.step(), 3);
        check.same("only one is drawn", desk.figure(0), 5);
        check.same("none is known", desk.figure(6), 0);
        check.same("of the first", origin(desk, 4), "2 3 0 0 0");
        check.same("the given one is active", desk.clause(3, 0), 1);
    }

    private static String origin(RefutationDesk desk, int k) {
        StringBuilder text = new StringBuilder();
        for (int what = 3; what <= 7; what++) {
            text.append(what == 3 ? "" : " ").append(desk.clause(k, what));
        }
        return text.toString();
    }

    private static void runs() {
        RefutationDesk desk = Desks.with(60);
        check.refuses("run -1", IllegalArgumentException.class, () -> desk.run(-1));
        check.refuses("run 51", IllegalArgumentException.class, () -> desk.run(51));
        check.refuses("run least", IllegalArgumentException.class,
                () -> desk.run(Integer.MIN_VALUE));
        check.refuses("run most", IllegalArgumentException.class,
                () -> desk.run(Integer.MAX_VALUE));
        check.same("run 0", desk.run(0), 0);
        check.same("no step", desk.figure(3), 0);
        check.same("run 1", desk.run(1), 1);
        check.same("run 50", desk.run(50), 50);
        check.same("steps", desk.figure(3), 51);
        check.same("the rest", desk.run(50), 9);
        check.same("saturated", desk.state(), RefutationDesk.SATURATED);
        check.same("no more", desk.run(50), 0);
        check.refuses("a wrong number all the same", IllegalArgumentException.class,
                () -> desk.run(51));
        Check.deny(desk, "P(a)");
        check.same("one step to the end", desk.run(50), 1);
        check.same("refuted", desk.state(), RefutationDesk.REFUTED);
        check.same("no more", desk.run(1), 0);
    }

    private static void fullStep() {
        RefutationDesk desk = Desks.with(97);
        check.same("50", desk.run(50), 50);
        check.same("47", desk.run(50), 47);
        Check.assume(desk, "!x>P(x)Q(x)");
        check.same("given", desk.step(), 97);
        check.same("full", desk.state(), RefutationDesk.FULL);
        check.same("kept", desk.figure(0), 100);
        check.same("the last", Check.clauseText(desk, 99), "Q(a0)");
        check.same("it waits", desk.clause(99, 0), 0);
        check.same("steps", desk.figure(3), 98);
        check.same("active", desk.figure(2), 98);
        check.refuses("step", IllegalStateException.class, () -> desk.step());
        check.same("run", desk.run(50), 0);
        check.same("not refuted", desk.proof(), RefutationDesk.NONE);

        RefutationDesk chain = Desks.chain(15);
        int steps = chain.run(50) + chain.run(50);
        check.same("full", chain.state(), RefutationDesk.FULL);
        check.same("steps", chain.figure(3), steps);
        check.same("kept", chain.figure(0), 100);
    }
}
