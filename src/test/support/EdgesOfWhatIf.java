/** Promises 19 to 24. */
final class EdgesOfWhatIf {
    private final Book book;

    EdgesOfWhatIf(Book book) {
        this.book = book;
    }

    void tell() {
        lostBy();
        mostNeeded();
        seenIn();
        gainBy();
        gainByRefused();
        patience();
        meanChain();
    }

    private void lostBy() {
        book.section("Promise 19: lostBy");
        book.says("Tells how many pairs of a person and a thing would not see any more if the mood of a person was 0 for a "
                + "moment.");
        for (int threshold = 0; threshold <= 2; threshold++) {
            LentRights x = Made.one();
            x.grant(0, 1, 0, 5, threshold);
            x.grant(1, 2, 0, 5, threshold);
            // Only a threshold of 0 bears a mood of 0.
            book.same(threshold == 0 ? 0 : 2, x.lostBy(0));
            book.same(threshold == 0 ? 0 : 1, x.lostBy(1));
            book.same(0, x.lostBy(2));
        }
        LentRights y = Made.one();
        y.cheer(0, -60);
        y.grant(0, 1, 0, 7, 0);
        book.same(0, y.lostBy(0));
        LentRights z = Made.furnished();
        for (int thing = 0; thing < 8; thing++) {
            z.grant(thing, 9, thing, 7, 0);
        }
        for (int thing = 0; thing < 8; thing++) {
            z.grant(9, 8, thing, 1, 1);
            z.grant(thing, 8, thing, 6, 1);
        }
        book.same(8, z.lostBy(9));
        book.same(0, z.lostBy(0));
        book.changesNothing(2, Made::full, x -> x.lostBy(0));
        book.changesNothing(0, Made::full, x -> x.lostBy(9));

        book.says("- `person`: 0 to 9");
        for (int owner = 0; owner < 10; owner++) {
            LentRights x = new LentRights();
            x.addThing(owner, 7);
            x.grant(owner, (owner + 1) % 10, 0, 1, 1);
            for (int person = 0; person < 10; person++) {
                book.same(person == owner ? 1 : 0, x.lostBy(person));
            }
        }

        book.says("Returns their number.");
        LentRights w = Made.one();
        for (int person = 1; person < 10; person++) {
            w.grant(0, person, 0, 1, 60);
        }
        book.same(9, w.lostBy(0));
        book.same(0, new LentRights().lostBy(0));

        book.says("Throws `IndexOutOfBoundsException` if there is no such person (0 to 9)");
        book.refusesOutside(0, 9, Book.INDEX, Made::full, (x, person) -> x.lostBy(person));
    }

    private void mostNeeded() {
        book.section("Promise 20: mostNeeded");
        book.says("Finds the person by whose mood of 0 for a moment the most pairs would not see any more.");
        for (int owner = 0; owner < 10; owner++) {
            LentRights x = new LentRights();
            x.addThing(owner, 7);
            x.grant(owner, (owner + 1) % 10, 0, 5, 1);
            x.grant((owner + 1) % 10, (owner + 2) % 10, 0, 1, 1);
            book.same(owner, x.mostNeeded());
        }
        book.changesNothing(0, Made::full, LentRights::mostNeeded);

        book.says("Returns the person, of several the lowest one; NONE if none would be lost by anybody.");
        book.changesNothing(-1, LentRights::new, LentRights::mostNeeded);
        book.changesNothing(-1, Made::furnished, LentRights::mostNeeded);
        LentRights y = Made.furnished();
        y.grant(5, 9, 5, 1, 0);
        y.grant(4, 9, 4, 6, 60);
        book.same(-1, y.mostNeeded());
        y.grant(7, 9, 7, 1, 1);
        book.same(7, y.mostNeeded());
        y.grant(3, 9, 3, 1, 1);
        book.same(3, y.mostNeeded());
        y.grant(7, 8, 7, 1, 1);
        book.same(7, y.mostNeeded());
        y.grant(3, 8, 3, 1, 1);
        book.same(3, y.mostNeeded());
        y.grant(0, 8, 0, 1, 1);
        y.grant(0, 9, 0, 1, 1);
        book.same(0, y.mostNeeded());
    }

    private void seenIn() {
        book.section("Promise 21: seenIn");
        book.says("Tells how many pairs would see after some ticks, if nothing else is done.");
        Book.Maker falling = () -> {
            LentRights x = Made.one();
            x.cheer(0, 40);
            x.setBase(0, 0);
            for (int person = 1; person < 10; person++) {
                x.grant(0, person, 0, 1, 10 * person);
            }
            return x;
        };
        for (int ticks = 0; ticks <= 100; ticks++) {
            int after = ticks;
            // The mood is 100 - ticks then; a grant of the threshold 10 * person lives if it is not below.
            book.changesNothing(1 + Math.min(9, (100 - ticks) / 10), falling, x -> x.seenIn(after));
        }
        LentRights x = Made.line();
        x.setBase(0, 0);
        book.same(3, x.seenIn(10));
        book.same(1, x.seenIn(11));
        // A mood that comes back does not bring a dead grant back.
        LentRights y = Made.line();
        y.cheer(0, -20);
        book.same(1, y.seenIn(100));

        book.says("- `ticks`: 0 to 100");
        book.takes(0, 100, Made::furnished, (z, ticks) -> z.seenIn(ticks), (z, ticks) -> 8);
        book.takes(0, 100, LentRights::new, (z, ticks) -> z.seenIn(ticks), (z, ticks) -> 0);
        // It throws nothing at the end of time, as the document names no such exception here.
        book.takes(0, 100, Made::late, (z, ticks) -> z.seenIn(ticks), (z, ticks) -> 1);

        book.says("Returns their number.");
        LentRights w = Made.furnished();
        for (int thing = 0; thing < 8; thing++) {
            for (int person = 1; person <= 5; person++) {
                w.grant(thing, (thing + person) % 10, thing, 1, 0);
            }
        }
        book.same(48, w.seenIn(0));
        book.same(48, w.seenIn(100));

        book.says("Throws `IllegalArgumentException` if ticks is out of range");
        book.refusesOutside(0, 100, Book.ARGUMENT, Made::full, (z, ticks) -> z.seenIn(ticks));
    }

    private void gainBy() {
        book.section("Promise 22: gainBy");
        book.says("Tells by how many pairs more would be seen if a grant was given.");
        Book.Maker waiting = () -> {
            LentRights x = Made.one();
            x.grant(0, 1, 0, 5, 1);
            for (int person = 1; person < 9; person++) {
                x.grant(person, person + 1, 0, 5, 0);
            }
            x.revoke(0);
            return x;
        };
        for (int person = 1; person < 10; person++) {
            int to = person;
            book.changesNothing(10 - to, waiting, x -> x.gainBy(0, to, 0, 7, 0));
            book.changesNothing(1, waiting, x -> x.gainBy(0, to, 0, 1, 0));
            book.changesNothing(0, waiting, x -> x.gainBy(0, to, 0, 6, 0));
        }
        book.changesNothing(0, Made::line, x -> x.gainBy(0, 1, 0, 1, 0));
        book.changesNothing(0, Made::line, x -> x.gainBy(1, 0, 0, 1, 0));

        book.says("- `lender`: 0 to 9");
        book.takes(0, 9, Made::furnished, (x, lender) -> x.gainBy(lender, (lender + 1) % 10, 0, 1, 0),
                (x, lender) -> lender == 0 ? 1 : -1);
        book.says("- `borrower`: 0 to 9");
        book.takes(0, 8, () -> {
            LentRights x = Made.one();
            x.give(0, 9);
            return x;
        }, (x, borrower) -> x.gainBy(9, borrower, 0, 1, 0), (x, borrower) -> 1);
        book.same(1, Made.one().gainBy(0, 9, 0, 1, 0));
        book.says("- `thing`: number of a thing");
        book.takes(0, 7, Made::furnished, (x, thing) -> x.gainBy(7, 9, thing, 1, 0), (x, thing) -> thing == 7 ? 1 : -1);
        book.says("- `rights`: 1 to 7");
        book.takes(1, 7, Made::one, (x, rights) -> x.gainBy(0, 1, 0, rights, 0), (x, rights) -> rights % 2);
        book.says("- `threshold`: 0 to 100");
        book.takes(0, 100, Made::one, (x, threshold) -> x.gainBy(0, 1, 0, 1, threshold),
                (x, threshold) -> threshold <= 60 ? 1 : -1);
    }

    private void gainByRefused() {
        book.says("Returns their number; NONE if grant() with these arguments would throw an IllegalStateException.");
        book.changesNothing(-1, Made::full, x -> x.gainBy(4, 5, 0, 1, 0));
        book.changesNothing(-1, Made::full, x -> x.gainBy(2, 5, 0, 1, 0));
        book.changesNothing(-1, Made::full, x -> x.gainBy(1, 5, 0, 3, 0));
        book.changesNothing(-1, Made::full, x -> x.gainBy(0, 5, 0, 1, 60));
        book.changesNothing(1, Made::full, x -> x.gainBy(0, 5, 0, 1, 59));
        book.changesNothing(-1, Made::crowded, x -> x.gainBy(0, 2, 0, 1, 0));
        Book.Maker almost = () -> {
            LentRights x = Made.crowded();
            x.revoke(7);
            return x;
        };
        book.changesNothing(1, almost, x -> x.gainBy(0, 2, 0, 1, 0));

        book.says("Throws `IndexOutOfBoundsException` if there is no such person or thing");
        book.refuses(Book.INDEX, LentRights::new, x -> x.gainBy(0, 1, 0, 1, 0));
        book.refusesOutside(0, 9, Book.INDEX, Made::full, (x, lender) -> x.gainBy(lender, 1, 0, 1, 0));
        book.refusesOutside(0, 9, Book.INDEX, Made::full, (x, borrower) -> x.gainBy(0, borrower, 0, 1, 0));
        book.refusesOutside(0, 1, Book.INDEX, Made::full, (x, thing) -> x.gainBy(0, 1, thing, 1, 0));
        book.refusesOutside(0, 7, Book.INDEX, Made::furnished, (x, thing) -> x.gainBy(0, 1, thing, 1, 0));

        book.says("Throws `IllegalArgumentException` if rights or threshold is out of range, or lender and borrower are the "
                + "same");
        book.refusesOutside(1, 7, Book.ARGUMENT, Made::full, (x, rights) -> x.gainBy(0, 1, 0, rights, 0));
        book.refusesOutside(0, 100, Book.ARGUMENT, Made::full, (x, threshold) -> x.gainBy(0, 1, 0, 1, threshold));
        for (int person = 0; person < 10; person++) {
            int no = person;
            book.refuses(Book.ARGUMENT, Made::full, x -> x.gainBy(no, no, 0, 1, 0));
        }
    }

    private void patience() {
        book.section("Promise 23: patience");
        book.says("Tells how far the mood of a person could fall without any grant of this person dying.");
        for (int threshold = 0; threshold <= 60; threshold += 10) {
            LentRights x = Made.one();
            x.grant(0, 1, 0, 7, threshold);
            book.same(60 - threshold, x.patience(0));
            x.cheer(0, -x.patience(0));
            book.same(0, x.patience(0));
            book.same(1, x.value(1));
            x.cheer(0, -1);
            book.same(threshold == 0 ? 1 : 0, x.value(1));
        }
        book.changesNothing(9, Made::full, x -> x.patience(0));

        book.says("- `person`: 0 to 9");
        book.takes(0, 9, LentRights::new, (x, person) -> {
            x.cheer(person, person);
            return x.patience(person);
        }, (x, person) -> 60 + person);

        book.says("Returns the mood minus the greatest threshold of the living grants that the person gave; the mood without "
                + "such grants.");
        LentRights y = Made.furnished();
        y.cheer(0, 40);
        y.grant(0, 1, 0, 7, 99);
        y.grant(0, 1, 0, 7, 100);
        y.grant(0, 1, 0, 7, 98);
        y.grant(1, 2, 0, 7, 7);
        book.same(0, y.patience(0));
        book.same(53, y.patience(1));
        book.same(60, y.patience(2));
        y.cheer(0, -1);
        book.same(0, y.patience(0));
        y.revoke(0);
        book.same(1, y.patience(0));
        y.revoke(2);
        book.same(99, y.patience(0));
        // A grant that passes on nothing lives, too.
        book.same(53, y.patience(1));
        y.cheer(2, -100);
        book.same(0, y.patience(2));

        book.says("Throws `IndexOutOfBoundsException` if there is no such person (0 to 9)");
        book.refusesOutside(0, 9, Book.INDEX, Made::full, (x, person) -> x.patience(person));
    }

    private void meanChain() {
        book.section("Promise 24: meanChain");
        book.says("Returns the mean length of the shortest chains.");
        book.changesNothing((0 + 1 + 2 + 0 + 1 + 2) / 6.0, Made::full, LentRights::meanChain);
        book.changesNothing((0 + 1 + 2) / 3.0, Made::line, LentRights::meanChain);

        book.says("Returns the sum of chain() over all pairs that see (owners, too), converted to double, divided by the "
                + "number of these pairs, converted to double; 0.0 without things.");
        book.changesNothing(0.0, LentRights::new, LentRights::meanChain);
        book.changesNothing(0.0, Made::one, LentRights::meanChain);
        book.changesNothing(0.0, Made::furnished, LentRights::meanChain);
        LentRights x = Made.furnished();
        for (int grants = 1; grants < 10; grants++) {
            x.grant(0, grants, 0, 1, 0);
            book.same((double) grants / (double) (grants + 8), x.meanChain());
        }
        LentRights y = Made.one();
        for (int person = 0; person < 9; person++) {
            y.grant(person, person + 1, 0, 5, 0);
        }
        book.same(45.0 / 10.0, y.meanChain());
        // Who holds other rights alone does not count.
        LentRights z = Made.one();
        z.grant(0, 1, 0, 1, 0);
        z.grant(0, 2, 0, 6, 0);
        book.same(1.0 / 2.0, z.meanChain());
    }
}
