/** "An object is used for at most 512 calls after it has been made": the last is as good. */
public final class CallsTest {
    private static final int MOST_CALLS = 512;

    private static final Check check = new Check();

    public static void main(String[] args) {
        check.words("An object is used for at most 512 calls after it has been made");
        typing();
        assuming();
        assumingVariables();
        assumingLongTexts();
        claiming();
        refusing();
        looking();
        running();
        check.end("CallsTest");
    }

    private static void typing() {
        RefutationDesk desk = new RefutationDesk();
        for (int n = 1; n < MOST_CALLS; n += 2) {
            check.same("call " + n, desk.type(Check.packed("!!!!!!!!")), 8);
            check.same("call " + (n + 1), desk.wipe(), 8);
        }
    }

    /** Every text is known but for the first; the known ones are counted to the end. */
    private static void assuming() {
        RefutationDesk desk = new RefutationDesk();
        for (int n = 1; n < MOST_CALLS - 1; n += 2) {
            desk.type('P');
            check.same("call " + (n + 1), desk.assume(false), n == 1 ? 1 : 0);
        }
        check.same("call 511", desk.figure(6), 254);
        check.same("call 512", desk.figure(0), 1);
    }

    /** What earlier texts had is not counted when a later one is read. */
    private static void assumingVariables() {
        RefutationDesk desk = new RefutationDesk();
        for (int n = 1; n < MOST_CALLS - 3; n += 2) {
            desk.type(Check.packed("!xP(x)"));
            check.same("call " + (n + 1), desk.assume(false), n == 1 ? 1 : 0);
        }
        desk.type(Check.packed("!xQ(x)"));
        check.same("call 510", desk.assume(false), 1);
        check.same("call 511", desk.print(false, 1), 4);
        check.same("call 512", desk.out(2), 'x');
    }

    private static void assumingLongTexts() {
        RefutationDesk desk = new RefutationDesk();
        String atom = "P(a,b,c,d,e,f,g,h,i,j,k,a,b,c,a)";
        String text = "&" + atom + "&" + atom + "&" + atom + "&" + atom + "P(b,c)";
        int calls = 0;
        for (int n = 0; n < 20; n++) {
            check.same("kept", Check.assume(desk, text), n == 0 ? 2 : 0);
            calls += 2 + (text.length() + 7) / 8;
        }
        check.same("known", desk.figure(6), 98);
        check.same("another one", Check.assume(desk, "P(d,e)"), 1);
        check.same("its text", Check.clauseText(desk, 2), "P(d,e)");
        check.same("within 512 calls", calls + 20 > MOST_CALLS ? 1 : 0, 0);
    }

    private static void claiming() {
        RefutationDesk desk = new RefutationDesk();
        desk.type(Check.packed("&P~P"));
        desk.assume(false);
        for (int n = 3; n < MOST_CALLS - 1; n += 2) {
            desk.type(n % 16 == 3 && n < 300 ? 'P' : 'Q');
            int due = n % 16 == 3 && n < 300 ? n / 16 : RefutationDesk.NONE;
            check.same("call " + (n + 1), desk.claim(-1, 0, 0, 0), due);
        }
        check.same("call 511", desk.figure(8), 19);
        check.same("call 512", desk.print(true, 18), 1);
    }

    private static void refusing() {
        RefutationDesk desk = new RefutationDesk();
        desk.type('P');
        for (int n = 2; n < MOST_CALLS; n++) {
            check.refuses("call " + n, IndexOutOfBoundsException.class,
                    () -> desk.claim(-1, 0, 0, 0));
        }
        check.same("call 512", desk.assume(false), 1);
    }

    private static void looking() {
        RefutationDesk desk = new RefutationDesk();
        desk.type(Check.packed("&PQ"));
        desk.assume(false);
        for (int n = 3; n < MOST_CALLS; n += 3) {
            check.same("call " + n, desk.print(false, n % 2), 1);
            check.same("call " + (n + 1), desk.out(0), n % 2 == 0 ? 'P' : 'Q');
            check.same("call " + (n + 2), desk.subsumes(n % 2, 0) ? 1 : 0, 1 - n % 2);
        }
    }

    /** Sixty clauses that wait, a step a call; then nothing is left to do. */
    private static void running() {
        RefutationDesk desk = Desks.with(60);
        int calls = callsOf(60);
        int steps = 0;
        while (calls < MOST_CALLS - 1) {
            steps += desk.run(1);
            calls++;
        }
        check.same("steps", steps, 60);
        check.same("call 512", desk.figure(3), 60);
    }

    /** Each five clauses take a look at the text, its typing, and its assuming. */
    private static int callsOf(int clauses) {
        return clauses / 5 * (1 + 4 + 1);
    }
}
