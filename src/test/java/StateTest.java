/** Promises 28 and 29: undo and digest. */
public final class StateTest {
    private static final Class<IllegalStateException> STATE = IllegalStateException.class;

    private static final Check check = new Check();

    public static void main(String[] args) {
        undo();
        undoKeepsTheText();
        undoBringsAllBack();
        digestOfNew();
        digest();
        check.finish();
    }

    private static void undo() {
        LentRights x = new LentRights();
        check.refuses("28: nothing is saved", STATE, x, x::undo);
        for (int person = 0; person < 6; person++) {
            x.setBase(person, 1);
        }
        for (int left = 3; left >= 0; left--) {
            check.same("28: undo()", left, x.undo());
            check.same("28: undone", 60, x.person(2 + left, 1));
            check.same("28: not undone yet", 1, x.person(1 + left, 1));
        }
        check.refuses("28: the oldest were dropped", STATE, x, x::undo);
        check.same("28: what they changed stays", 1, x.person(0, 1));
        x.setBase(7, 5);
        check.same("28: one again", 0, x.undo());
        check.same("28: undone", 60, x.person(7, 1));
    }

    private static void undoKeepsTheText() {
        LentRights x = new LentRights();
        x.setBase(0, 1);
        Check.text(x, "t7;");
        check.same("28: undo()", 0, x.undo());
        check.same("28: the text's order", 1, x.carryOut());
        check.same("28: the time", 7, x.value(5));
        x.clearText();
        check.same("28: undo()", 0, x.undo());
        check.same("28: the text stays empty", 0, x.clearText());
        check.same("28: the time", 0, x.value(5));
    }

    private static void undoBringsAllBack() {
        LentRights x = new LentRights();
        x.addThing(0, 7);
        for (int number = 0; number < 15; number++) {
            x.grant(0, 1 + number % 3, 0, 5, 40 + number);
        }
        x.cheer(0, -10);
        x.pass(1);
        x.revoke(3);
        long before = x.digest();
        int[] first = {x.entry(0, 0), x.entry(0, 1), x.value(3), x.value(5), x.value(8)};
        x.cheer(0, -60);
        x.undo();
        // One saved state fewer than the four from before.
        check.same("28: the log", first[0], x.entry(0, 0));
        check.same("28: its time", first[1], x.entry(0, 1));
        check.same("28: died", first[2], x.value(3));
        check.same("28: the time", first[3], x.value(5));
        check.same("28: the entries", first[4], x.value(8));
        check.sameLong("28: the digest but for the states", before - 4, x.digest() - 3);
        x.cheer(0, -60);
        check.same("28: what is held", 0, x.held(1, 0));
        x.undo();
        check.same("28: what is held again", 5, x.held(1, 0));
        check.same("28: the next number", 15, x.grant(0, 1, 0, 1, 0));
    }

    private static void digestOfNew() {
        long due = 3671;
        due = 31 * due;
        for (int what = 0; what <= 8; what++) {
            due = 31 * due;
        }
        for (int person = 0; person < 10; person++) {
            due = 31 * (31 * due + 60) + 60;
            for (int what = 2; what <= 6; what++) {
                due = 31 * due;
            }
        }
        due = 31 * due;
        check.sameLong("29: of a new object", due, new LentRights().digest());
        LentRights x = new LentRights();
        x.append(';');
        check.holds("29: the text's length counts", x.digest() != due);
    }

    private static void digest() {
        LentRights x = new LentRights();
        x.addThing(0, 7);
        x.addThing(3, 6);
        x.grant(0, 1, 0, 7, 10);
        x.grant(1, 2, 0, 5, 50);
        x.grant(3, 2, 1, 7, 55);
        x.cheer(1, -20);
        x.revoke(0);
        x.append('t');
        x.append('9');
        int[][] parts = {
            {2},
            {2, 1, 3, 1, 1, 0, 2, 0, 1},
            {60, 60, 1, 1, 0, 0, 1},
            {40, 60, 0, 0, 0, 0, 0},
            {60, 60, 0, 0, 0, 1, 0},
            {60, 60, 1, 1, 1, 0, 2},
            {60, 60, 0, 0, 0, 0, 0},
            {60, 60, 0, 0, 0, 0, 0},
            {60, 60, 0, 0, 0, 0, 0},
            {60, 60, 0, 0, 0, 0, 0},
            {60, 60, 0, 0, 0, 0, 0},
            {60, 60, 0, 0, 0, 0, 0},
            {0, 7, 0, 1, 1, 1},
            {3, 6, 1, 8, 8 + 4, 8 + 4},
            {2, 3, 2, 1, 7, 55, 6},
            {1, 0, 1},
            {4},
        };
        long due = 3671;
        for (int[] part : parts) {
            for (int number : part) {
                due = 31 * due + number;
            }
        }
        check.sameLong("29: digest()", due, x.digest());
        check.sameLong("29: digest() again", due, x.digest());
    }
}
