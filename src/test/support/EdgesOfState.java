import java.math.BigInteger;
import java.util.ArrayList;
import java.util.List;
import java.util.NoSuchElementException;

/** Promises 28 and 29, and what the terms say about undo(). */
final class EdgesOfState {
    private final Book book;

    EdgesOfState(Book book) {
        this.book = book;
    }

    void tell() {
        book.section("Terms");
        saves();
        savesNothing();
        fourStates();
        everything();
        undo();
        digest();
        digestOfEach();
    }

    private void undoableSentence() {
        book.says("Each successful call of a method whose description says \"undoable\" saves the state from before the call, "
                + "even if the call changes nothing; at most 4 states are saved, and the oldest is dropped first.");
    }

    private void saves() {
        undoableSentence();
        for (Book.Maker maker : new Book.Maker[] {Made::line, Made::full}) {
            int things = maker.make().value(0);
            book.undoable(things, maker, x -> x.addThing(1, 0));
            book.undoable(7, maker, x -> x.setMask(0, 0));
            book.undoable(7, maker, x -> x.setMask(0, 7));
            book.undoable(60, maker, x -> x.setBase(0, 100));
            book.undoable(60, maker, x -> x.setBase(0, 60));
            book.undoable(0, maker, x -> x.give(0, 1));
            book.undoable(0, maker, x -> x.give(0, 0));
            book.undoable(maker.make().value(2), maker, x -> x.grant(0, 1, 0, 1, 0));
            book.undoable(2, maker, x -> x.revoke(0));
            book.undoable(0, maker, x -> x.cheer(0, -100));
            book.undoable(60, maker, x -> x.cheer(5, 0));
            book.undoable(maker.make().value(8), maker, x -> x.pass(1));
            book.undoable(0, () -> Check.text(maker.make(), ""), LentRights::carryOut);
            book.undoable(0, () -> Check.text(maker.make(), "v7;"), LentRights::carryOut);
            book.undoable(2, () -> Check.text(maker.make(), "c0-99;t1;"), LentRights::carryOut);
        }
    }

    private void savesNothing() {
        undoableSentence();
        for (Book.Maker maker : new Book.Maker[] {LentRights::new, Made::line, Made::full}) {
            LentRights like = maker.make();
            book.changesNothing(like.person(0, 0), maker, x -> x.person(0, 0));
            book.changesNothing(like.value(6), maker, x -> x.value(6));
            book.changesNothing(like.lostBy(0), maker, x -> x.lostBy(0));
            book.changesNothing(like.mostNeeded(), maker, x -> x.mostNeeded());
            book.changesNothing(like.seenIn(9), maker, x -> x.seenIn(9));
            book.changesNothing(like.patience(0), maker, x -> x.patience(0));
            book.changesNothing(like.meanChain(), maker, x -> x.meanChain());
            book.changesNothing(like.digest(), maker, x -> x.digest());
            book.changesNothing(-10, () -> Check.text(maker.make(), ";"), LentRights::carryOut);
            int saved = new Look(maker.make()).saved();
            LentRights x = maker.make();
            x.append('x');
            book.same(saved, new Look(x).saved());
            LentRights y = maker.make();
            y.clearText();
            book.same(saved, new Look(y).saved());
        }
        for (int thing = 0; thing < 2; thing++) {
            int which = thing;
            book.changesNothing(which == 0 ? 7 : 1, Made::full, x -> x.held(0, which));
            book.changesNothing(which == 0 ? 0 : 9, Made::full, x -> x.thing(which, 0));
            book.changesNothing(which == 0 ? 0 : 2, Made::full, x -> x.chain(0, which));
            book.changesNothing(0, Made::full, x -> x.why(0, which, 1));
            book.changesNothing(which == 0 ? 1 : 2, Made::full, x -> x.gainBy(which == 0 ? 0 : 9, 7, which, 1, 0)
                    + which);
        }
        book.changesNothing(3, Made::full, x -> x.link(0, 1, 1));
        book.changesNothing(5, Made::full, x -> x.grantOf(0, 5));
        book.changesNothing(4, Made::full, x -> x.entry(0, 0));
    }

    private void fourStates() {
        undoableSentence();
        for (int calls = 0; calls <= 9; calls++) {
            LentRights x = new LentRights();
            for (int call = 1; call <= calls; call++) {
                x.setBase(0, call);
            }
            int saved = Math.min(4, calls);
            for (int left = saved - 1; left >= 0; left--) {
                book.same(left, x.undo());
                int due = calls - (saved - left);
                book.same(due == 0 ? 60 : due, x.person(0, 1));
            }
            book.same(saved, new Look(setBases(calls)).saved());
            int made = calls;
            book.refuses(Book.STATE, () -> {
                LentRights y = setBases(made);
                for (int left = 0; left < Math.min(4, made); left++) {
                    y.undo();
                }
                return y;
            }, LentRights::undo);
        }
        // An undone state makes room for another one.
        LentRights z = setBases(9);
        z.undo();
        z.undo();
        for (int base = 50; base < 55; base++) {
            z.setBase(0, base);
        }
        int[] due = {53, 52, 51, 50};
        for (int place = 0; place < 4; place++) {
            book.same(3 - place, z.undo());
            book.same(due[place], z.person(0, 1));
        }
    }

    private static LentRights setBases(int calls) {
        LentRights x = new LentRights();
        for (int call = 1; call <= calls; call++) {
            x.setBase(0, call);
        }
        return x;
    }

    private void everything() {
        book.says("The saved state contains everything except the text.");
        LentRights x = Made.full();
        LentRights like = Made.full();
        // One call that changes all that a text can change, then its undo().
        Check.text(x, "g0107,0;v0;c0-100;c9+7;t9;");
        Check.text(like, "g0107,0;v0;c0-100;c9+7;t9;");
        book.same(5, x.carryOut());
        book.same(3, x.undo());
        for (int what = 0; what <= 8; what++) {
            book.same(like.value(what), x.value(what));
        }
        for (int person = 0; person < 10; person++) {
            for (int what = 0; what <= 6; what++) {
                book.same(like.person(person, what), x.person(person, what));
            }
        }
        for (int what = 0; what <= 2; what++) {
            book.same(like.entry(0, what), x.entry(0, what));
        }
        for (int number = 0; number < 4; number++) {
            for (int what = 0; what <= 5; what++) {
                book.same(like.grantOf(number, what), x.grantOf(number, what));
            }
        }
        book.same(6, x.grant(0, 1, 0, 1, 0));
        // The calls that change a thing or a base.
        LentRights y = Made.furnished();
        y.setMask(7, 1);
        y.undo();
        book.same(7, y.thing(7, 1));
        y.give(7, 1);
        y.undo();
        book.same(7, y.thing(7, 0));
        y.setBase(9, 1);
        y.undo();
        book.same(60, y.person(9, 1));
        book.same(2, y.undo());
        book.same(7, y.value(0));
        book.refuses(Book.INDEX, () -> {
            LentRights z = Made.furnished();
            z.undo();
            return z;
        }, z -> z.thing(7, 0));
        // The text is what it was last, whatever is undone.
        LentRights w = Check.text(Made.one(), "t7;");
        w.undo();
        book.same(1, w.carryOut());
        w.clearText();
        w.append('t');
        w.undo();
        book.same(-11, w.carryOut());
        book.same(1, w.clearText());
    }

    private void undo() {
        book.section("Promise 28: undo");
        book.says("Restores the most recently saved state and removes it from the saved states.");
        LentRights x = Made.one();
        long first = x.digest();
        x.grant(0, 1, 0, 7, 60);
        long second = x.digest();
        x.cheer(0, -1);
        x.undo();
        book.sameLong(second, x.digest());
        x.undo();
        book.sameLong(first, x.digest());
        x.undo();
        book.sameLong(new LentRights().digest(), x.digest());
        // What was undone does not come back, and undo() itself can't be undone.
        book.refuses(Book.STATE, () -> {
            LentRights y = Made.one();
            y.undo();
            return y;
        }, LentRights::undo);

        book.says("Returns the number of saved states that remain.");
        for (int times = 1; times <= 4; times++) {
            book.same(4 - times, undone(times));
        }
        LentRights z = new LentRights();
        for (int call = 0; call < 20; call++) {
            z.setBase(0, call);
            book.same(0, z.undo());
        }

        book.says("Throws `IllegalStateException` if there is no saved state");
        book.refuses(Book.STATE, LentRights::new, LentRights::undo);
        book.refuses(Book.STATE, () -> Check.text(new LentRights(), "t1;"), LentRights::undo);
        book.refuses(Book.STATE, () -> {
            LentRights y = Made.full();
            for (int call = 0; call < 4; call++) {
                y.undo();
            }
            return y;
        }, LentRights::undo);
    }

    /** What the last one of some calls of undo() answers. */
    private static int undone(int times) {
        LentRights x = Made.full();
        for (int call = 1; call < times; call++) {
            x.undo();
        }
        return x.undo();
    }

    private void digest() {
        book.section("Promise 29: digest");
        book.says("Returns a hash of the state.");
        book.sameLong(Made.full().digest(), Made.full().digest());
        LentRights x = Made.full();
        book.sameLong(x.digest(), x.digest());
        book.holds(x.digest() != Made.line().digest());

        book.says("Returns the hash, with the overflow of long arithmetic ignored.");
        isWorked(8, 6, 4, Made::full);
        isWorked(0, 0, 0, LentRights::new);
        isWorked(0, 40, 4, Made::crowded);
        isWorked(7, 0, 4, Made::late);
    }

    private void digestOfEach() {
        book.says("Start with h = 3671 and, for each of the following values v, set h = 31 * h + v: the length of the text; "
                + "value() for 0 to 8; for each person the values of person() for what = 0 to 6; for each thing the values of "
                + "thing() for what = 0 to 5; for each living grant, in ascending order, its number and the values of "
                + "grantOf() for what = 0 to 5; for each entry that is kept, from the latest one, the values of entry() for "
                + "what = 0 to 2; the number of saved states.");
        for (int length = 0; length <= 100; length += 25) {
            String text = "x".repeat(length);
            isWorked(length, 2, 3, () -> Check.text(Made.line(), text));
        }
        for (int calls = 0; calls <= 6; calls++) {
            int made = calls;
            isWorked(0, 0, Math.min(4, calls), () -> setBases(made));
        }
        isWorked(0, 0, 4, Made::furnished);
        isWorked(0, 40, 4, EdgesOfState::thinned);
        isWorked(0, 40, 4, () -> {
            LentRights x = thinned();
            x.setMask(0, 3);
            return x;
        });
        Book.Maker dead = () -> {
            LentRights x = thinned();
            x.cheer(0, -1);
            return x;
        };
        book.same(12, dead.make().value(8));
        isWorked(0, 40, 4, dead);
        isWorked(0, 40, 3, () -> {
            LentRights x = dead.make();
            x.undo();
            return x;
        });
    }

    /** Grants whose numbers have gaps. */
    private static LentRights thinned() {
        LentRights x = Made.crowded();
        x.revoke(0);
        x.revoke(20);
        x.revoke(39);
        return x;
    }

    private void isWorked(int length, int given, int saved, Book.Maker maker) {
        book.sameLong(worked(maker.make(), length, given, saved), maker.make().digest());
    }

    /** The digest worked out from the other answers, in whole numbers, and cut to 64 bits at the end. */
    private static long worked(LentRights x, int length, int given, int saved) {
        List<Integer> values = new ArrayList<>(List.of(length));
        for (int what = 0; what <= 8; what++) {
            values.add(x.value(what));
        }
        for (int person = 0; person < 10; person++) {
            for (int what = 0; what <= 6; what++) {
                values.add(x.person(person, what));
            }
        }
        for (int thing = 0; thing < x.value(0); thing++) {
            for (int what = 0; what <= 5; what++) {
                values.add(x.thing(thing, what));
            }
        }
        for (int number = 0; number < given; number++) {
            addGrant(values, x, number);
        }
        for (int index = 0; index < x.value(8); index++) {
            for (int what = 0; what <= 2; what++) {
                values.add(x.entry(index, what));
            }
        }
        values.add(saved);
        BigInteger hash = BigInteger.valueOf(3671);
        for (int value : values) {
            hash = hash.multiply(BigInteger.valueOf(31)).add(BigInteger.valueOf(value));
        }
        return hash.longValue();
    }

    private static void addGrant(List<Integer> values, LentRights x, int number) {
        try {
            x.grantOf(number, 0);
        } catch (NoSuchElementException e) {
            return;
        }
        values.add(number);
        for (int what = 0; what <= 5; what++) {
            values.add(x.grantOf(number, what));
        }
    }
}
