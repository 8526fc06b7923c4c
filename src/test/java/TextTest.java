/** Promises 2 and 3: type and wipe. */
public final class TextTest {
    private static final Check check = new Check();

    public static void main(String[] args) {
        bytes();
        wrongBytes();
        length();
        wiping();
        check.end("TextTest");
    }

    private static void bytes() {
        RefutationDesk desk = new RefutationDesk();
        check.same("nothing", desk.type(0), 0);
        check.same("a byte", desk.type('P'), 1);
        check.same("wipe", desk.wipe(), 1);
        check.same("lowest first", desk.type(Check.packed("&PQ")), 3);
        desk.assume(false);
        check.same("rows", Check.clauses(desk), "P Q");
        check.same("all eight", desk.type(Check.packed("||P(a)QR")), 8);
        check.same("behind the text", desk.type('!'), 9);
        check.same("up to byte 0", desk.type(0x2100210021212121L), 13);
        check.same("nothing behind byte 0", desk.type(0x2121212121212100L), 13);
        check.same("not looked at behind byte 0", desk.type(0xffffff7f20010021L), 14);
        check.same("33 and 126", desk.type(0x7e21), 16);
    }

    private static void wrongBytes() {
        RefutationDesk desk = new RefutationDesk();
        desk.type('A');
        long[] wrong = {
            32, 127, 128, 255, 1, -1L, 0x2021, 0x7f21, 0x2021212121212121L, 0x8021212121212121L,
        };
        for (long more : wrong) {
            check.refuses("type " + more, IllegalArgumentException.class, () -> desk.type(more));
        }
        check.same("nothing is typed then", desk.type(0), 1);
        check.same("highest byte", desk.type(0x7e21212121212121L), 9);
    }

    private static void length() {
        RefutationDesk desk = new RefutationDesk();
        check.same("159", Check.type(desk, "~".repeat(159)), 159);
        check.refuses("161", UnsupportedOperationException.class, () -> desk.type(0x2121));
        check.refuses("161 with a wrong one", IllegalArgumentException.class,
                () -> desk.type(0x202121));
        check.same("still 159", desk.type(0), 159);
        check.same("160", desk.type('~'), 160);
        check.same("160 and nothing", desk.type(0), 160);
        check.refuses("one more", UnsupportedOperationException.class, () -> desk.type('~'));
        check.same("wipe", desk.wipe(), 160);
        check.same("again", Check.type(desk, "P".repeat(160)), 160);
    }

    private static void wiping() {
        RefutationDesk desk = new RefutationDesk();
        Check.type(desk, "P(");
        check.refuses("no formula", IllegalArgumentException.class, () -> desk.assume(false));
        check.same("the text is still there", desk.wipe(), 2);
        check.same("wiped", desk.wipe(), 0);
        check.same("at is not wiped", desk.at(), 2);
        check.same("text after wiping", Check.assume(desk, "P"), 1);
        check.same("assume wipes", desk.wipe(), 0);
    }
}
