/** Promises 1 to 9. */
final class EdgesOfHouse {
    private final Book book;

    EdgesOfHouse(Book book) {
        this.book = book;
    }

    void tell() {
        newObject();
        addThing();
        setMask();
        setBase();
        give();
        grant();
        grantRanges();
        grantRefused();
        revoke();
        cheer();
        pass();
    }

    private void newObject() {
        book.section("Promise 1: A new object");
        book.says("Creates a house of persons without things and grants, at the time 0.");
        LentRights x = new LentRights();
        for (int what = 0; what <= 8; what++) {
            book.same(0, x.value(what));
        }
        for (int person = 0; person < 10; person++) {
            for (int what = 0; what <= 6; what++) {
                book.same(what < 2 ? 60 : 0, x.person(person, what));
            }
        }
        book.refuses(Book.INDEX, LentRights::new, y -> y.thing(0, 0));
        book.refuses(Book.ELEMENT, LentRights::new, y -> y.grantOf(0, 0));
        book.refuses(Book.INDEX, LentRights::new, y -> y.entry(0, 0));
        book.refuses(Book.STATE, LentRights::new, LentRights::undo);
        book.same(0, x.clearText());
    }

    private void addThing() {
        book.section("Promise 2: addThing");
        book.says("Adds a thing.");
        LentRights x = new LentRights();
        book.same(0, x.addThing(4, 3));
        book.same(1, x.value(0));
        book.same(4, x.thing(0, 0));
        book.same(3, x.thing(0, 1));
        for (int what = 2; what <= 5; what++) {
            book.same(what == 2 ? 0 : 16, x.thing(0, what));
        }

        book.says("Undoable.");
        book.undoable(0, LentRights::new, y -> y.addThing(0, 0));
        book.undoable(2, Made::full, y -> y.addThing(9, 7));

        book.says("- `owner`: 0 to 9");
        book.takes(0, 9, Made::one, (y, owner) -> y.addThing(owner, 7) + 10 * y.thing(1, 0), (y, owner) -> 1 + 10 * owner);

        book.says("- `mask`: a set of rights, 0 to 7");
        book.takes(0, 7, Made::one, (y, mask) -> y.addThing(1, mask) + 10 * y.thing(1, 1), (y, mask) -> 1 + 10 * mask);

        book.says("Returns the number of the thing.");
        LentRights z = new LentRights();
        for (int thing = 0; thing < 8; thing++) {
            book.same(thing, z.addThing(0, 0));
        }
        z.undo();
        book.same(7, z.addThing(1, 1));

        book.says("Throws `IndexOutOfBoundsException` if there is no such person (0 to 9)");
        book.refusesOutside(0, 9, Book.INDEX, Made::full, (y, owner) -> y.addThing(owner, 7));
        book.refusesOutside(0, 9, Book.INDEX, LentRights::new, (y, owner) -> y.addThing(owner, 7));

        book.says("Throws `IllegalArgumentException` if mask is out of range");
        book.refusesOutside(0, 7, Book.ARGUMENT, Made::full, (y, mask) -> y.addThing(0, mask));

        book.says("Throws `IllegalStateException` if there are 8 things");
        book.refuses(Book.STATE, Made::furnished, y -> y.addThing(0, 7));
        book.refuses(Book.STATE, Made::furnished, y -> y.addThing(9, 0));
    }

    private void setMask() {
        book.section("Promise 3: setMask");
        book.says("Sets the mask of a thing.");
        LentRights x = Made.line();
        x.addThing(0, 6);
        x.setMask(0, 4);
        book.same(4, x.thing(0, 1));
        book.same(6, x.thing(1, 1));
        book.same(4, x.held(1, 0));
        book.same(0, x.held(2, 0));
        book.same(2, x.value(1));

        book.says("Undoable.");
        book.undoable(7, Made::line, y -> y.setMask(0, 0));
        book.undoable(7, Made::one, y -> y.setMask(0, 7));
        book.undoable(7, Made::full, y -> y.setMask(0, 7));

        book.says("- `thing`: number of a thing");
        book.takes(0, 7, Made::furnished, (y, thing) -> y.setMask(thing, 1) + y.thing(thing, 1), (y, thing) -> 8);

        book.says("- `mask`: 0 to 7");
        book.takes(0, 7, Made::full, (y, mask) -> y.setMask(1, mask) + 10 * y.thing(1, 1), (y, mask) -> 5 + 10 * mask);

        book.says("Returns the previous mask.");
        LentRights z = Made.one();
        for (int mask = 0; mask <= 7; mask++) {
            book.same((mask + 7) % 8, z.setMask(0, mask));
        }

        book.says("Throws `IndexOutOfBoundsException` if there is no such thing");
        book.refuses(Book.INDEX, LentRights::new, y -> y.setMask(0, 7));
        book.refusesOutside(0, 1, Book.INDEX, Made::full, (y, thing) -> y.setMask(thing, 7));
        book.refusesOutside(0, 7, Book.INDEX, Made::furnished, (y, thing) -> y.setMask(thing, 7));

        book.says("Throws `IllegalArgumentException` if mask is out of range");
        book.refusesOutside(0, 7, Book.ARGUMENT, Made::full, (y, mask) -> y.setMask(1, mask));
    }

    private void setBase() {
        book.section("Promise 4: setBase");
        book.says("Sets the base of a person.");
        LentRights x = Made.line();
        x.setBase(0, 0);
        book.same(0, x.person(0, 1));
        book.same(60, x.person(0, 0));
        book.same(60, x.person(1, 1));
        book.same(2, x.value(1));
        x.pass(1);
        book.same(59, x.person(0, 0));

        book.says("Undoable.");
        book.undoable(60, LentRights::new, y -> y.setBase(0, 0));
        book.undoable(60, LentRights::new, y -> y.setBase(9, 60));
        book.undoable(0, Made::full, y -> y.setBase(1, 0));

        book.says("- `person`: 0 to 9");
        book.takes(0, 9, LentRights::new, (y, person) -> y.setBase(person, 7) + y.person(person, 1), (y, person) -> 67);

        book.says("- `base`: 0 to 100");
        book.takes(0, 100, LentRights::new, (y, base) -> y.setBase(3, base) + 1000 * y.person(3, 1),
                (y, base) -> 60 + 1000 * base);

        book.says("Returns the previous base.");
        LentRights z = new LentRights();
        book.same(60, z.setBase(5, 100));
        book.same(100, z.setBase(5, 0));
        book.same(0, z.setBase(5, 1));
        book.same(60, z.setBase(6, 1));

        book.says("Throws `IndexOutOfBoundsException` if there is no such person (0 to 9)");
        book.refusesOutside(0, 9, Book.INDEX, Made::full, (y, person) -> y.setBase(person, 50));

        book.says("Throws `IllegalArgumentException` if base is out of range");
        book.refusesOutside(0, 100, Book.ARGUMENT, Made::full, (y, base) -> y.setBase(1, base));
    }

    private void give() {
        book.section("Promise 5: give");
        book.says("Gives a thing to another owner; grants stay.");
        LentRights x = Made.line();
        x.give(0, 1);
        book.same(1, x.thing(0, 0));
        book.same(7, x.thing(0, 1));
        book.same(2, x.value(1));
        book.same(0, x.grantOf(0, 5));
        book.same(1, x.grantOf(1, 5));
        book.same(0, x.held(0, 0));
        book.same(7, x.held(1, 0));
        book.same(1, x.held(2, 0));
        x.give(0, 9);
        book.same(512, x.thing(0, 3));
        book.same(2, x.value(7));
        x.give(0, 0);
        book.same(5, x.grantOf(0, 5));
        book.same(7, x.thing(0, 3));

        book.says("Undoable.");
        book.undoable(0, Made::line, y -> y.give(0, 2));
        book.undoable(0, Made::line, y -> y.give(0, 0));
        book.undoable(9, Made::full, y -> y.give(1, 9));

        book.says("- `thing`: number of a thing");
        book.takes(0, 7, Made::furnished, (y, thing) -> y.give(thing, 9) + 10 * y.thing(thing, 0), (y, thing) -> thing + 90);

        book.says("- `owner`: 0 to 9");
        book.takes(0, 9, Made::full, (y, owner) -> y.give(1, owner) + 10 * y.thing(1, 0), (y, owner) -> 9 + 10 * owner);

        book.says("Returns the previous owner.");
        LentRights z = Made.one();
        for (int owner = 1; owner < 10; owner++) {
            book.same(owner - 1, z.give(0, owner));
        }
        book.same(9, z.give(0, 9));

        book.says("Throws `IndexOutOfBoundsException` if there is no such person or thing");
        book.refuses(Book.INDEX, LentRights::new, y -> y.give(0, 0));
        book.refusesOutside(0, 9, Book.INDEX, Made::full, (y, owner) -> y.give(0, owner));
        book.refusesOutside(0, 1, Book.INDEX, Made::full, (y, thing) -> y.give(thing, 0));
        book.refusesOutside(0, 7, Book.INDEX, Made::furnished, (y, thing) -> y.give(thing, 0));
    }

    private void grant() {
        book.section("Promise 6: grant");
        book.says("Gives a grant.");
        LentRights x = Made.one();
        x.grant(0, 9, 0, 6, 1);
        int[] due = {0, 9, 0, 6, 1, 6};
        for (int what = 0; what < due.length; what++) {
            book.same(due[what], x.grantOf(0, what));
        }
        book.same(6, x.held(9, 0));
        book.same(1, x.value(1));
        // The same once more is another grant.
        book.same(1, x.grant(0, 9, 0, 6, 1));
        book.same(2, x.value(1));
        // The owner gets one, too.
        book.same(2, x.grant(9, 0, 0, 4, 0));
        book.same(4, x.grantOf(2, 5));

        book.says("Undoable.");
        book.undoable(0, Made::one, y -> y.grant(0, 1, 0, 7, 60));
        book.undoable(2, Made::line, y -> y.grant(0, 1, 0, 5, 50));
        book.undoable(6, Made::full, y -> y.grant(9, 1, 1, 7, 0));

        book.says("Returns the number of the grant.");
        LentRights z = Made.one();
        for (int number = 0; number < 40; number++) {
            book.same(number, z.grant(0, 1 + number % 9, 0, 1, 0));
        }
    }

    private void grantRanges() {
        book.says("- `lender`: 0 to 9");
        book.takes(0, 9, Made::furnished, (y, lender) -> {
            y.give(0, lender);
            return y.grant(lender, (lender + 1) % 10, 0, 7, 60) + y.grantOf(0, 0);
        }, (y, lender) -> lender);

        book.says("- `borrower`: 0 to 9");
        book.takes(0, 9, Made::furnished, (y, borrower) -> {
            y.give(0, (borrower + 1) % 10);
            return y.grant((borrower + 1) % 10, borrower, 0, 7, 60) + y.grantOf(0, 1);
        }, (y, borrower) -> borrower);

        book.says("- `thing`: number of a thing");
        book.takes(0, 7, Made::furnished, (y, thing) -> y.grant(thing, 9, thing, 7, 60) + y.grantOf(0, 2),
                (y, thing) -> thing);

        book.says("- `rights`: 1 to 7");
        book.takes(1, 7, Made::one, (y, rights) -> y.grant(0, 9, 0, rights, 60) + y.grantOf(0, 3), (y, rights) -> rights);

        book.says("- `threshold`: 0 to 100");
        book.takes(0, 100, Made::one, (y, threshold) -> {
            y.cheer(0, 40);
            return y.grant(0, 9, 0, 7, threshold) + y.grantOf(0, 4);
        }, (y, threshold) -> threshold);
    }

    private void grantRefused() {
        book.says("Throws `IndexOutOfBoundsException` if there is no such person or thing");
        book.refuses(Book.INDEX, LentRights::new, y -> y.grant(0, 1, 0, 1, 0));
        book.refusesOutside(0, 9, Book.INDEX, Made::full, (y, lender) -> y.grant(lender, 1, 0, 1, 0));
        book.refusesOutside(0, 9, Book.INDEX, Made::full, (y, borrower) -> y.grant(0, borrower, 0, 1, 0));
        book.refusesOutside(0, 1, Book.INDEX, Made::full, (y, thing) -> y.grant(0, 1, thing, 1, 0));
        book.refusesOutside(0, 7, Book.INDEX, Made::furnished, (y, thing) -> y.grant(0, 1, thing, 1, 0));

        book.says("Throws `IllegalArgumentException` if rights or threshold is out of range, or lender and borrower are the "
                + "same");
        book.refusesOutside(1, 7, Book.ARGUMENT, Made::full, (y, rights) -> y.grant(0, 1, 0, rights, 0));
        book.refusesOutside(0, 100, Book.ARGUMENT, Made::full, (y, threshold) -> y.grant(0, 1, 0, 1, threshold));
        for (int person = 0; person < 10; person++) {
            int no = person;
            book.refuses(Book.ARGUMENT, Made::full, y -> y.grant(no, no, 0, 1, 0));
        }

        book.says("Throws `IllegalStateException` if the lender does not hold the right to lend and all these rights, or has "
                + "a mood below the threshold, or 40 grants live");
        for (int held = 1; held <= 7; held++) {
            for (int rights = 1; rights <= 7; rights++) {
                int has = held;
                int given = rights;
                Book.Maker lender = () -> {
                    LentRights y = Made.one();
                    y.grant(0, 1, 0, has, 0);
                    return y;
                };
                if ((has & 4) != 0 && (has & given) == given) {
                    book.undoable(1, lender, y -> y.grant(1, 2, 0, given, 60));
                } else {
                    book.refuses(Book.STATE, lender, y -> y.grant(1, 2, 0, given, 60));
                }
            }
        }
        book.refuses(Book.STATE, Made::line, y -> y.grant(3, 4, 0, 1, 0));
        book.refuses(Book.STATE, Made::line, y -> y.grant(0, 4, 0, 1, 61));
        book.refuses(Book.STATE, Made::full, y -> y.grant(0, 4, 0, 1, 60));
        book.undoable(6, Made::full, y -> y.grant(0, 4, 0, 1, 59));
        book.refuses(Book.STATE, Made::crowded, y -> y.grant(0, 1, 0, 1, 0));
        Book.Maker almost = () -> {
            LentRights y = Made.crowded();
            y.revoke(0);
            return y;
        };
        book.undoable(40, almost, y -> y.grant(0, 1, 0, 1, 0));
        // The mask binds a lender who is not the owner.
        LentRights z = Made.line();
        z.setMask(0, 3);
        book.same(-1, z.gainBy(1, 3, 0, 1, 0));
        book.refuses(Book.STATE, () -> {
            LentRights y = Made.line();
            y.setMask(0, 3);
            return y;
        }, y -> y.grant(1, 3, 0, 1, 0));
    }

    private void revoke() {
        book.section("Promise 7: revoke");
        book.says("Revokes a grant.");
        LentRights x = Made.line();
        x.revoke(0);
        book.same(1, x.value(1));
        book.same(1, x.value(4));
        book.same(0, x.held(1, 0));
        book.same(1, x.grantOf(1, 0));

        book.says("Undoable.");
        book.undoable(2, Made::line, y -> y.revoke(0));
        book.undoable(0, Made::crowded, y -> y.revoke(39));
        book.undoable(1, Made::full, y -> y.revoke(1));

        book.says("- `number`: the number of a living grant");
        book.takes(0, 39, Made::crowded, (y, number) -> y.revoke(number) + y.value(1), (y, number) -> 39);

        book.says("Returns the pairs of a person and a thing, all in all, that do not see any more by it.");
        book.same(2, Made.line().revoke(0));
        book.same(1, Made.line().revoke(1));
        LentRights z = Made.line();
        z.grant(0, 2, 0, 1, 0);
        book.same(1, z.revoke(0));
        book.same(0, z.revoke(1));
        book.same(1, z.revoke(2));
        LentRights w = Made.one();
        w.grant(0, 1, 0, 7, 0);
        for (int person = 2; person < 10; person++) {
            w.grant(1, person, 0, 7, 0);
        }
        book.same(9, w.revoke(0));
        book.same(0, w.revoke(1));

        book.says("Throws `NoSuchElementException` if no such grant lives");
        book.refuses(Book.ELEMENT, LentRights::new, y -> y.revoke(0));
        book.refusesOutside(0, 1, Book.ELEMENT, Made::line, (y, number) -> y.revoke(number));
        book.refusesOutside(0, 39, Book.ELEMENT, Made::crowded, (y, number) -> y.revoke(number));
        book.refuses(Book.ELEMENT, Made::full, y -> y.revoke(4));
        book.refuses(Book.ELEMENT, Made::full, y -> y.revoke(5));
        book.refuses(Book.ELEMENT, Made::full, y -> y.revoke(6));
    }

    private void cheer() {
        book.section("Promise 8: cheer");
        book.says("Changes the mood of a person by an amount, but not below 0 or above 100.");
        for (int amount = -100; amount <= 100; amount++) {
            LentRights x = new LentRights();
            int due = amount < -60 ? 0 : amount > 40 ? 100 : 60 + amount;
            book.same(due, x.cheer(4, amount));
            book.same(due, x.person(4, 0));
            book.same(60, x.person(4, 1));
            book.same(60, x.person(3, 0));
        }

        book.says("Grants can die by it.");
        LentRights x = Made.line();
        x.cheer(0, -10);
        book.same(2, x.value(1));
        x.cheer(0, -1);
        book.same(1, x.value(1));
        book.same(1, x.value(3));
        book.same(0, x.held(1, 0) + x.held(2, 0));
        x.cheer(1, -1);
        book.same(0, x.value(1));
        book.same(0, x.value(4));

        book.says("Undoable.");
        book.undoable(49, Made::line, y -> y.cheer(0, -11));
        book.undoable(60, Made::line, y -> y.cheer(0, 0));
        book.undoable(60, Made::full, y -> y.cheer(9, 0));
        Book.Maker happy = () -> {
            LentRights y = Made.one();
            y.cheer(0, 40);
            return y;
        };
        book.undoable(100, happy, y -> y.cheer(0, 1));

        book.says("- `person`: 0 to 9");
        book.takes(0, 9, LentRights::new, (y, person) -> y.cheer(person, 7) + y.person(person, 0), (y, person) -> 134);

        book.says("- `amount`: -100 to 100");
        book.takes(-100, 100, Made::line, (y, amount) -> y.cheer(5, amount),
                (y, amount) -> Math.max(0, Math.min(100, 60 + amount)));

        book.says("Returns the mood then.");
        LentRights z = new LentRights();
        int[] amounts = {40, 1, -100, -1, 100, -99, -1, 0};
        int[] moods = {100, 100, 0, 0, 100, 1, 0, 0};
        for (int place = 0; place < amounts.length; place++) {
            book.same(moods[place], z.cheer(0, amounts[place]));
        }

        book.says("Throws `IndexOutOfBoundsException` if there is no such person (0 to 9)");
        book.refusesOutside(0, 9, Book.INDEX, Made::full, (y, person) -> y.cheer(person, -100));

        book.says("Throws `IllegalArgumentException` if amount is out of range");
        book.refusesOutside(-100, 100, Book.ARGUMENT, Made::full, (y, amount) -> y.cheer(0, amount));
    }

    private void pass() {
        book.section("Promise 9: pass");
        book.says("Lets ticks pass.");
        LentRights x = Made.one();
        x.cheer(0, -3);
        x.pass(2);
        book.same(2, x.value(5));
        book.same(59, x.person(0, 0));
        x.pass(1);
        book.same(60, x.person(0, 0));
        x.pass(1);
        book.same(60, x.person(0, 0));
        book.same(4, x.value(5));

        book.says("Undoable.");
        book.undoable(0, LentRights::new, y -> y.pass(1));
        book.undoable(1, Made::full, y -> y.pass(1));
        book.undoable(0, Made::late, y -> y.pass(50));

        book.says("- `ticks`: 1 to 100");
        book.takes(1, 100, Made::full, (y, ticks) -> {
            y.pass(ticks);
            return y.value(5);
        }, (y, ticks) -> ticks);

        book.says("Returns the grants that died in them.");
        Book.Maker falling = () -> {
            LentRights y = Made.one();
            y.setBase(0, 0);
            for (int number = 0; number < 40; number++) {
                y.grant(0, 1, 0, 1, 60 - number / 2);
            }
            return y;
        };
        book.takes(1, 100, falling, (y, ticks) -> y.pass(ticks), (y, ticks) -> Math.min(40, 2 * ticks));
        LentRights z = falling.make();
        book.same(2, z.pass(1));
        book.same(4, z.pass(2));
        book.same(34, z.pass(17));
        book.same(0, z.pass(1));

        book.says("Throws `IllegalArgumentException` if ticks is out of range");
        book.refusesOutside(1, 100, Book.ARGUMENT, Made::full, (y, ticks) -> y.pass(ticks));

        book.says("Throws `IllegalStateException` if the time would be greater than 100000");
        book.takes(1, 50, Made::late, (y, ticks) -> {
            y.pass(ticks);
            return y.value(5);
        }, (y, ticks) -> 99950 + ticks);
        book.refuses(Book.STATE, Made::late, y -> y.pass(51));
        book.refuses(Book.STATE, Made::late, y -> y.pass(100));
        Book.Maker last = () -> {
            LentRights y = Made.late();
            y.pass(50);
            return y;
        };
        book.same(100000, last.make().value(5));
        book.refuses(Book.STATE, last, y -> y.pass(1));
    }
}
