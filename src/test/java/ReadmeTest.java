/** The example of README.md, line by line, answers what README.md says. */
public final class ReadmeTest {
    private final Check check = new Check();
    private final RefutationDesk desk = new RefutationDesk();

    public static void main(String[] args) {
        ReadmeTest test = new ReadmeTest();
        test.findsTheRefutation();
        test.looksAtLines();
        test.tellsOfRefusedText();
        test.check.end("ReadmeTest");
    }

    private void findsTheRefutation() {
        check.same("type of eight", desk.type(0x4D297828483E7821L), 8);
        check.same("type of three", desk.type(0x297828), 11);
        check.same("assume !x>H(x)M(x)", desk.assume(false), 1);
        check.same("type H(a)", desk.type(0x29612848), 4);
        check.same("assume H(a)", desk.assume(false), 1);
        check.same("type M(a)", desk.type(0x2961284D), 4);
        check.same("assume M(a), denied", desk.assume(true), 1);
        check.same("run", desk.run(50), 4);
        check.same("state", desk.state(), RefutationDesk.REFUTED);
        check.same("proof", desk.proof(), 5);
        check.same("clause 0", Check.out(desk, desk.print(false, 0)), "~H(x)|M(x)");
        check.same("clause 2", Check.out(desk, desk.print(false, 2)), "~M(a)");
    }

    private void looksAtLines() {
        check.same("line ~H(x)|M(x)", Check.claim(desk, "~H(x)|M(x)", -1, 0, 0, 0), 0);
        check.same("line H(a)", Check.claim(desk, "H(a)", -1, 1, 0, 0), 1);
        check.same("line M(a)", Check.claim(desk, "M(a)", 0, 0, 1, 0), 2);
        check.same("no line H(b)", Check.claim(desk, "H(b)", 0, 0, 1, 0), RefutationDesk.NONE);
        check.same("lines", desk.figure(8), 3);
    }

    private void tellsOfRefusedText() {
        Check.type(desk, "&P");
        check.refuses("assume &P", IllegalArgumentException.class, () -> desk.assume(false));
        check.same("at", desk.at(), 2);
        check.same("wipe", desk.wipe(), 2);
    }
}
