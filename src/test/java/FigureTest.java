/** Promise 15: figure. */
public final class FigureTest {
    private static final Check check = new Check();

    public static void main(String[] args) {
        RefutationDesk desk = new RefutationDesk();
        figures(desk, 0, 0, 0, 0, 0, 0, 0, 0, 0);
        Check.assume(desk, "&P?xQ(x)");
        figures(desk, 2, 2, 0, 0, 0, 0, 0, 1, 0);
        Check.assume(desk, "&P|R~R");
        figures(desk, 2, 2, 0, 0, 0, 1, 1, 1, 0);
        Check.assume(desk, "||||ABCDE");
        figures(desk, 2, 2, 0, 0, 1, 1, 1, 1, 0);
        desk.step();
        figures(desk, 2, 1, 1, 1, 1, 1, 1, 1, 0);
        Check.assume(desk, "!xQ(x)");
        desk.run(2);
        figures(desk, 3, 0, 2, 3, 1, 1, 1, 1, 0);
        Check.claim(desk, "P", -1, 0, 0, 0);
        Check.claim(desk, "Q", -1, 0, 0, 0);
        figures(desk, 3, 0, 2, 3, 1, 1, 1, 1, 1);
        Check.deny(desk, "Q(a)");
        figures(desk, 4, 1, 2, 3, 1, 1, 1, 1, 1);
        desk.run(1);
        figures(desk, 5, 1, 3, 4, 1, 1, 1, 1, 1);
        check.refuses("figure -1", IllegalArgumentException.class, () -> desk.figure(-1));
        check.refuses("figure 9", IllegalArgumentException.class, () -> desk.figure(9));
        check.refuses("figure least", IllegalArgumentException.class,
                () -> desk.figure(Integer.MIN_VALUE));
        check.refuses("figure most", IllegalArgumentException.class,
                () -> desk.figure(Integer.MAX_VALUE));
        check.end("FigureTest");
    }

    private static void figures(RefutationDesk desk, int... due) {
        for (int what = 0; what < due.length; what++) {
            check.same("figure " + what, desk.figure(what), due[what]);
        }
    }
}
