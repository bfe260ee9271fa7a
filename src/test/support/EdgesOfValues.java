/** Promises 10 to 18. */
final class EdgesOfValues {
    private final Book book;

    EdgesOfValues(Book book) {
        this.book = book;
    }

    void tell() {
        held();
        person();
        thing();
        grantOf();
        chain();
        link();
        why();
        whyReasons();
        value();
        entry();
    }

    private void held() {
        book.section("Promise 10: held");
        book.says("Returns the rights that a person holds to a thing.");
        int[][] due = {{7, 5, 1, 0, 0, 0, 0, 0, 0, 0}, {1, 0, 0, 5, 0, 0, 0, 0, 0, 7}};
        for (int thing = 0; thing < 2; thing++) {
            for (int person = 0; person < 10; person++) {
                int who = person;
                int which = thing;
                book.changesNothing(due[thing][person], Made::full, x -> x.held(who, which));
            }
        }

        book.says("- `person`: 0 to 9");
        book.takes(0, 9, Made::one, (x, person) -> x.held(person, 0), (x, person) -> person == 0 ? 7 : 0);

        book.says("- `thing`: number of a thing");
        book.takes(0, 7, Made::furnished, (x, thing) -> x.held(thing, thing), (x, thing) -> 7);
        book.takes(0, 7, Made::furnished, (x, thing) -> x.held(7, thing), (x, thing) -> thing == 7 ? 7 : 0);

        book.says("Returns the set of rights.");
        for (int rights = 1; rights <= 7; rights++) {
            int given = rights;
            book.changesNothing(given, () -> {
                LentRights x = Made.one();
                x.grant(0, 9, 0, given, 0);
                return x;
            }, x -> x.held(9, 0));
        }

        book.says("Throws `IndexOutOfBoundsException` if there is no such person or thing");
        book.refuses(Book.INDEX, LentRights::new, x -> x.held(0, 0));
        book.refusesOutside(0, 9, Book.INDEX, Made::full, (x, person) -> x.held(person, 0));
        book.refusesOutside(0, 1, Book.INDEX, Made::full, (x, thing) -> x.held(0, thing));
        book.refusesOutside(0, 7, Book.INDEX, Made::furnished, (x, thing) -> x.held(0, thing));
    }

    private void person() {
        book.section("Promise 11: person");
        book.says("Returns something about a person.");
        int[][] due = {
            {59, 60, 1, 2, 1, 1, 3},
            {60, 0, 0, 1, 1, 1, 1},
            {60, 60, 0, 1, 0, 1, 1},
            {60, 60, 0, 1, 1, 1, 2},
            {60, 60, 0, 0, 0, 0, 0},
            {60, 60, 0, 0, 0, 0, 0},
            {60, 60, 0, 0, 0, 0, 0},
            {60, 60, 0, 0, 0, 0, 0},
            {60, 60, 0, 0, 0, 0, 0},
            {60, 60, 1, 1, 1, 0, 2},
        };
        for (int person = 0; person < 10; person++) {
            int who = person;
            book.takes(0, 6, Made::full, (x, what) -> x.person(who, what), (x, what) -> due[who][what]);
        }
        book.changesNothing(3, Made::full, x -> x.person(0, 6));

        book.says("- `person`: 0 to 9");
        book.takes(0, 9, Made::furnished, (x, person) -> x.person(person, 6), (x, person) -> person < 8 ? 1 << person : 0);

        book.says("- `what`: 0 the mood, 1 the base, 2 the things that the person owns, 3 those that the person sees (own "
                + "ones, too), 4 the living grants that the person gave, 5 those that the person got, 6 the set of things "
                + "that the person sees (bit t for the thing t)");
        LentRights y = new LentRights();
        for (int thing = 0; thing < 8; thing++) {
            y.addThing(5, 7);
        }
        int[] all = {60, 60, 8, 8, 0, 0, 255};
        for (int what = 0; what <= 6; what++) {
            book.same(all[what], y.person(5, what));
        }
        y.grant(5, 6, 3, 6, 0);
        book.same(0, y.person(6, 3));
        y.grant(5, 6, 7, 1, 0);
        y.grant(5, 6, 7, 1, 60);
        book.same(1, y.person(6, 3));
        book.same(128, y.person(6, 6));
        book.same(3, y.person(6, 5));
        book.same(3, y.person(5, 4));
        y.cheer(5, -1);
        book.same(2, y.person(6, 5));
        y.revoke(1);
        book.same(1, y.person(5, 4));
        book.same(0, y.person(6, 6));

        book.says("Returns that value.");
        LentRights z = Made.crowded();
        book.same(40, z.person(0, 4));
        book.same(40, z.person(1, 5));
        book.same(100, z.cheer(0, 100) * z.person(0, 0) / 100.0);

        book.says("Throws `IndexOutOfBoundsException` if there is no such person (0 to 9)");
        for (int what = 0; what <= 6; what++) {
            int asked = what;
            book.refusesOutside(0, 9, Book.INDEX, Made::full, (x, person) -> x.person(person, asked));
        }

        book.says("Throws `IllegalArgumentException` if what is out of range");
        book.refusesOutside(0, 6, Book.ARGUMENT, Made::full, (x, what) -> x.person(0, what));
        book.refusesOutside(0, 6, Book.ARGUMENT, Made::full, (x, what) -> x.person(9, what));
    }

    private void thing() {
        book.section("Promise 12: thing");
        book.says("Returns something about a thing.");
        int[][] due = {{0, 7, 2, 7, 1, 3}, {9, 5, 2, 512 + 8 + 1, 512, 512 + 8}};
        for (int thing = 0; thing < 2; thing++) {
            int which = thing;
            book.takes(0, 5, Made::full, (x, what) -> x.thing(which, what), (x, what) -> due[which][what]);
        }
        book.changesNothing(521, Made::full, x -> x.thing(1, 3));

        book.says("- `thing`: number of a thing");
        book.takes(0, 7, Made::furnished, (x, thing) -> x.thing(thing, 0), (x, thing) -> thing);

        book.says("- `what`: 0 the owner, 1 the mask, 2 the living grants for it, 3 the set of persons who see it (bit p for "
                + "the person p), 4 the set of those who use it, 5 the set of those who lend it");
        for (int right = 0; right < 3; right++) {
            LentRights y = new LentRights();
            y.addThing(9, 7);
            for (int person = 0; person < 9; person++) {
                y.grant(9, person, 0, 1 << right, 60);
                for (int what = 3; what <= 5; what++) {
                    book.same(what == 3 + right ? 512 + (2 << person) - 1 : 512, y.thing(0, what));
                }
            }
            book.same(9, y.thing(0, 2));
            y.revoke(4);
            book.same(8, y.thing(0, 2));
            y.setMask(0, 7 - (1 << right));
            book.same(8, y.thing(0, 2));
            book.same(512, y.thing(0, 3 + right));
            y.cheer(9, -1);
            book.same(0, y.thing(0, 2));
        }

        book.says("Returns that value.");
        book.same(40, Made.crowded().thing(0, 2));
        book.same(0, Made.furnished().thing(7, 2));

        book.says("Throws `IndexOutOfBoundsException` if there is no such thing");
        book.refuses(Book.INDEX, LentRights::new, x -> x.thing(0, 0));
        for (int what = 0; what <= 5; what++) {
            int asked = what;
            book.refusesOutside(0, 1, Book.INDEX, Made::full, (x, thing) -> x.thing(thing, asked));
            book.refusesOutside(0, 7, Book.INDEX, Made::furnished, (x, thing) -> x.thing(thing, asked));
        }

        book.says("Throws `IllegalArgumentException` if what is out of range");
        book.refusesOutside(0, 5, Book.ARGUMENT, Made::full, (x, what) -> x.thing(0, what));
        book.refusesOutside(0, 5, Book.ARGUMENT, Made::full, (x, what) -> x.thing(1, what));
    }

    private void grantOf() {
        book.section("Promise 13: grantOf");
        book.says("Returns something about a living grant.");
        int[][] due = {{0, 1, 0, 5, 50, 5}, {1, 2, 0, 1, 60, 1}, {9, 3, 1, 7, 0, 5}, {3, 0, 1, 1, 60, 1}};
        for (int number = 0; number < 4; number++) {
            int which = number;
            book.takes(0, 5, Made::full, (x, what) -> x.grantOf(which, what), (x, what) -> due[which][what]);
        }
        book.changesNothing(5, Made::full, x -> x.grantOf(2, 5));

        book.says("- `number`: the number of the grant");
        book.takes(0, 39, () -> {
            LentRights x = Made.one();
            for (int number = 0; number < 40; number++) {
                x.grant(0, 1 + number % 9, 0, 7, number);
            }
            return x;
        }, (x, number) -> x.grantOf(number, 4), (x, number) -> number);

        book.says("- `what`: 0 the lender, 1 the borrower, 2 the thing, 3 the set of rights, 4 the threshold, 5 the set of "
                + "rights that it passes on now");
        LentRights y = Made.furnished();
        y.cheer(7, 40);
        y.grant(7, 9, 7, 7, 100);
        y.grant(9, 8, 7, 7, 0);
        int[][] told = {{7, 9, 7, 7, 100, 7}, {9, 8, 7, 7, 0, 7}};
        for (int number = 0; number < 2; number++) {
            for (int what = 0; what <= 5; what++) {
                book.same(told[number][what], y.grantOf(number, what));
            }
        }
        y.setMask(7, 5);
        book.same(7, y.grantOf(1, 3));
        book.same(5, y.grantOf(0, 5));
        book.same(5, y.grantOf(1, 5));
        y.setMask(7, 3);
        book.same(3, y.grantOf(0, 5));
        book.same(0, y.grantOf(1, 5));

        book.says("Returns that value.");
        LentRights z = Made.line();
        z.give(0, 9);
        book.same(5, z.grantOf(0, 3));
        book.same(0, z.grantOf(0, 5));

        book.says("Throws `NoSuchElementException` if no such grant lives");
        book.refuses(Book.ELEMENT, Made::one, x -> x.grantOf(0, 0));
        book.refusesOutside(0, 39, Book.ELEMENT, Made::crowded, (x, number) -> x.grantOf(number, 0));
        for (int what = 0; what <= 5; what++) {
            int asked = what;
            for (int number = 4; number <= 6; number++) {
                int no = number;
                book.refuses(Book.ELEMENT, Made::full, x -> x.grantOf(no, asked));
            }
        }

        book.says("Throws `IllegalArgumentException` if what is out of range");
        book.refusesOutside(0, 5, Book.ARGUMENT, Made::full, (x, what) -> x.grantOf(0, what));
        book.refusesOutside(0, 5, Book.ARGUMENT, Made::full, (x, what) -> x.grantOf(3, what));
    }

    /** Person p holds the thing by a chain of p grants. */
    private static LentRights longest() {
        LentRights x = Made.one();
        for (int person = 0; person < 9; person++) {
            x.grant(person, person + 1, 0, 5, 0);
        }
        return x;
    }

    private void chain() {
        book.section("Promise 14: chain");
        book.says("Returns the length of a shortest chain.");
        LentRights y = longest();
        y.grant(3, 9, 0, 1, 0);
        book.same(4, y.chain(9, 0));
        y.grant(0, 8, 0, 5, 0);
        book.same(2, y.chain(9, 0));
        y.grant(0, 9, 0, 6, 0);
        book.same(2, y.chain(9, 0));
        y.grant(0, 9, 0, 1, 0);
        book.same(1, y.chain(9, 0));
        book.changesNothing(9, EdgesOfValues::longest, x -> x.chain(9, 0));

        book.says("- `person`: 0 to 9");
        book.takes(0, 9, EdgesOfValues::longest, (x, person) -> x.chain(person, 0), (x, person) -> person);

        book.says("- `thing`: number of a thing");
        book.takes(0, 7, Made::furnished, (x, thing) -> x.chain(7, thing), (x, thing) -> thing == 7 ? 0 : -1);

        book.says("Returns its grants; 0 for the owner; NONE if the person does not see the thing.");
        LentRights z = Made.line();
        book.same(0, z.chain(0, 0));
        book.same(-1, z.chain(3, 0));
        z.grant(0, 3, 0, 6, 0);
        book.same(-1, z.chain(3, 0));
        z.grant(1, 0, 0, 1, 0);
        book.same(0, z.chain(0, 0));
        z.setMask(0, 6);
        book.same(0, z.chain(0, 0));
        book.same(-1, z.chain(1, 0));
        z.give(0, 1);
        book.same(0, z.chain(1, 0));
        book.same(-1, z.chain(0, 0));

        book.says("Throws `IndexOutOfBoundsException` if there is no such person or thing");
        book.refuses(Book.INDEX, LentRights::new, x -> x.chain(0, 0));
        book.refusesOutside(0, 9, Book.INDEX, Made::full, (x, person) -> x.chain(person, 0));
        book.refusesOutside(0, 1, Book.INDEX, Made::full, (x, thing) -> x.chain(0, thing));
        book.refusesOutside(0, 7, Book.INDEX, Made::furnished, (x, thing) -> x.chain(0, thing));
    }

    private void link() {
        book.section("Promise 15: link");
        book.says("Returns a grant of the shortest chain.");
        book.changesNothing(0, Made::full, x -> x.link(2, 0, 0));
        book.changesNothing(1, Made::full, x -> x.link(2, 0, 1));
        book.changesNothing(2, Made::full, x -> x.link(0, 1, 0));
        book.changesNothing(3, Made::full, x -> x.link(0, 1, 1));

        book.says("- `person`: 0 to 9");
        book.takes(1, 9, EdgesOfValues::longest, (x, person) -> x.link(person, 0, person - 1), (x, person) -> person - 1);
        book.same(0, linkTo(0));

        book.says("- `thing`: number of a thing");
        book.takes(0, 7, Made::furnished, (x, thing) -> {
            x.grant(thing, 9, thing, 1, 0);
            return x.link(9, thing, 0);
        }, (x, thing) -> 0);

        book.says("- `place`: 0 for the grant that the owner gave, and so on");
        book.takes(0, 8, EdgesOfValues::longest, (x, place) -> x.link(9, 0, place), (x, place) -> place);

        book.says("Returns its number.");
        LentRights y = Made.one();
        for (int number = 0; number < 5; number++) {
            y.grant(0, 1, 0, 7, 0);
        }
        for (int number = 0; number < 4; number++) {
            book.same(number, y.link(1, 0, 0));
            y.revoke(number);
        }
        book.same(4, y.link(1, 0, 0));

        book.says("Throws `IndexOutOfBoundsException` if there is no such person or thing, or the chain has not so many "
                + "grants");
        book.refuses(Book.INDEX, LentRights::new, x -> x.link(0, 0, 0));
        book.refusesOutside(0, 9, Book.INDEX, Made::full, (x, person) -> x.link(person, 0, 0));
        book.refusesOutside(0, 1, Book.INDEX, Made::full, (x, thing) -> x.link(1, thing, 0));
        book.refusesOutside(0, 7, Book.INDEX, Made::furnished, (x, thing) -> x.link(1, thing, 0));
        for (int person = 1; person < 10; person++) {
            int who = person;
            book.refusesOutside(0, who - 1, Book.INDEX, EdgesOfValues::longest, (x, place) -> x.link(who, 0, place));
        }
        // The owner's chain has no grants, and who does not see has no chain.
        for (int place : new int[] {-2, -1, 0, 1}) {
            book.refuses(Book.INDEX, Made::full, x -> x.link(0, 0, place));
            book.refuses(Book.INDEX, Made::full, x -> x.link(4, 0, place));
        }
    }

    /** The first grant to a person who gets one from the owner. */
    private static int linkTo(int person) {
        LentRights x = new LentRights();
        x.addThing(9, 7);
        x.grant(9, person, 0, 1, 0);
        return x.link(person, 0, 0);
    }

    private void why() {
        book.section("Promise 16: why");
        book.says("Tells why a person does not hold a right to a thing; of several reasons, the first one is told.");
        // The mask does not have it, and nor does a grant; then the mask has it.
        LentRights x = Made.one();
        for (int right = 1; right <= 4; right *= 2) {
            x.setMask(0, 0);
            book.same(1, x.why(1, 0, right));
            x.setMask(0, right);
            book.same(2, x.why(1, 0, right));
            x.setMask(0, 7 - right);
            book.same(1, x.why(1, 0, right));
        }
        book.changesNothing(2, Made::full, y -> y.why(4, 0, 2));

        book.says("- `person`: 0 to 9");
        book.takes(0, 9, Made::one, (y, person) -> y.why(person, 0, 1), (y, person) -> person == 0 ? 0 : 2);

        book.says("- `thing`: number of a thing");
        book.takes(0, 7, Made::furnished, (y, thing) -> y.why(7, thing, 4), (y, thing) -> thing == 7 ? 0 : 2);

        book.says("- `right`: 1, 2 or 4");
        LentRights z = Made.one();
        z.grant(0, 1, 0, 2, 0);
        book.same(2, z.why(1, 0, 1));
        book.same(0, z.why(1, 0, 2));
        book.same(2, z.why(1, 0, 4));

        book.says("Throws `IndexOutOfBoundsException` if there is no such person or thing");
        book.refuses(Book.INDEX, LentRights::new, y -> y.why(0, 0, 1));
        book.refusesOutside(0, 9, Book.INDEX, Made::full, (y, person) -> y.why(person, 0, 1));
        book.refusesOutside(0, 1, Book.INDEX, Made::full, (y, thing) -> y.why(0, thing, 1));
        book.refusesOutside(0, 7, Book.INDEX, Made::furnished, (y, thing) -> y.why(0, thing, 1));

        book.says("Throws `IllegalArgumentException` if right is not one of these");
        for (int no : new int[] {Integer.MIN_VALUE, -4, -2, -1, 0, 3, 5, 6, 7, 8, 16, Integer.MAX_VALUE}) {
            book.refuses(Book.ARGUMENT, Made::full, y -> y.why(0, 0, no));
            book.refuses(Book.ARGUMENT, Made::full, y -> y.why(4, 0, no));
        }
    }

    private void whyReasons() {
        book.says("Returns 0 the person holds it, 1 the mask does not have it, 2 no living grant for the thing to this person "
                + "has it, 3 none of those that have it was given by one who holds the right to lend, 4 none of these was "
                + "given by one who holds this right.");
        LentRights x = Made.furnished();
        x.grant(0, 1, 0, 5, 0);  // 0
        x.grant(0, 1, 0, 2, 0);  // 1
        x.grant(1, 2, 0, 7, 0);  // 2
        x.grant(0, 3, 0, 7, 0);  // 3
        x.grant(3, 2, 0, 2, 0);  // 4
        reasons(x, 2, 0, 0, 0);
        x.revoke(1);
        reasons(x, 2, 0, 0, 0);
        x.revoke(4);
        // Person 1 can lend, and lacks the right to use.
        reasons(x, 2, 0, 4, 0);
        reasons(x, 1, 0, 2, 0);
        x.revoke(0);
        reasons(x, 2, 3, 3, 3);
        reasons(x, 1, 2, 2, 2);
        x.grant(0, 1, 0, 3, 0);  // 5
        // Person 1 holds both rights, but not the one to lend.
        reasons(x, 2, 3, 3, 3);
        x.grant(0, 1, 0, 4, 0);  // 6
        reasons(x, 2, 0, 0, 0);
        x.revoke(5);
        reasons(x, 2, 4, 4, 0);
        x.grant(3, 2, 0, 1, 60);  // 7
        reasons(x, 2, 0, 4, 0);
        x.cheer(3, -1);
        reasons(x, 2, 4, 4, 0);
        x.setMask(0, 6);
        reasons(x, 2, 1, 4, 0);
        x.setMask(0, 3);
        reasons(x, 2, 3, 3, 1);
        x.setMask(0, 0);
        reasons(x, 2, 1, 1, 1);
        reasons(x, 0, 0, 0, 0);
        reasons(x, 9, 1, 1, 1);
        x.setMask(0, 7);
        x.revoke(2);
        // Grants to another person, or for another thing, do not count.
        x.grant(7, 2, 7, 7, 0);
        reasons(x, 2, 2, 2, 2);
        // One of two lenders can lend; the other one holds the right.
        LentRights y = Made.one();
        y.grant(0, 1, 0, 6, 0);  // 0
        y.grant(0, 2, 0, 5, 0);  // 1
        y.grant(0, 2, 0, 1, 0);  // 2
        y.grant(0, 1, 0, 1, 0);  // 3
        y.grant(1, 3, 0, 1, 0);  // 4
        y.grant(2, 3, 0, 1, 0);  // 5
        y.revoke(3);
        y.revoke(1);
        book.same(4, y.why(3, 0, 1));
    }

    private void reasons(LentRights x, int person, int see, int use, int lend) {
        book.same(see, x.why(person, 0, 1));
        book.same(use, x.why(person, 0, 2));
        book.same(lend, x.why(person, 0, 4));
    }

    private void value() {
        book.section("Promise 17: value");
        book.says("Returns a number.");
        int[] due = {2, 4, 6, 1, 1, 0, 3 + 3, 0, 1};
        for (int what = 0; what < due.length; what++) {
            int asked = what;
            book.changesNothing(due[what], Made::full, x -> x.value(asked));
        }

        book.says("- `what`: 0 the things, 1 the living grants, 2 the grants given so far, 3 those that died by moods so "
                + "far, 4 those that were revoked so far, 5 the time, 6 the pairs of a person and a thing, all in all, that "
                + "see (owners, too), 7 the living grants that pass on nothing, 8 the entries in the log");
        LentRights x = Made.furnished();
        values(x, 8, 0, 0, 0, 0, 0, 8, 0, 0);
        for (int thing = 0; thing < 8; thing++) {
            for (int person = 0; person < 5; person++) {
                x.grant(thing, (thing + 1 + person) % 10, thing, person == 0 ? 6 : 1, 60);
            }
        }
        values(x, 8, 40, 40, 0, 0, 0, 8 + 32, 0, 0);
        x.setMask(0, 4);
        values(x, 8, 40, 40, 0, 0, 0, 8 + 28, 4, 0);
        x.cheer(1, -1);
        values(x, 8, 35, 40, 5, 0, 0, 8 + 24, 4, 5);
        x.revoke(0);
        x.revoke(39);
        values(x, 8, 33, 40, 5, 2, 0, 8 + 23, 4, 5);
        x.setBase(2, 0);
        x.setBase(3, 59);
        x.pass(100);
        values(x, 8, 23, 40, 15, 2, 100, 8 + 15, 4, 12);
        x.undo();
        values(x, 8, 33, 40, 5, 2, 0, 8 + 23, 4, 5);

        book.says("Returns that number.");
        LentRights y = Made.one();
        for (int person = 1; person < 10; person++) {
            y.grant(0, person, 0, 1, 0);
        }
        book.same(10, y.value(6));
        book.same(100000, lastTime().value(5));

        book.says("Throws `IllegalArgumentException` if what is out of range");
        book.refusesOutside(0, 8, Book.ARGUMENT, Made::full, (z, what) -> z.value(what));
        book.refusesOutside(0, 8, Book.ARGUMENT, LentRights::new, (z, what) -> z.value(what));
    }

    private static LentRights lastTime() {
        LentRights x = Made.late();
        x.pass(50);
        return x;
    }

    private void values(LentRights x, int... due) {
        for (int what = 0; what < due.length; what++) {
            book.same(due[what], x.value(what));
        }
    }

    /** Some grants die one by one, each by the tick of its number. */
    private static LentRights dying(int grants) {
        LentRights x = new LentRights();
        x.addThing(9, 7);
        x.setBase(9, 0);
        for (int number = 0; number < grants; number++) {
            x.grant(9, 1, 0, 7, 60 - number);
        }
        x.pass(grants == 0 ? 1 : grants);
        return x;
    }

    private void entry() {
        book.section("Promise 18: entry");
        book.says("Returns something about an entry of the log.");
        book.changesNothing(4, Made::full, x -> x.entry(0, 0));
        book.changesNothing(0, Made::full, x -> x.entry(0, 1));
        book.changesNothing(0, Made::full, x -> x.entry(0, 2));

        book.says("- `index`: 0 for the latest one, and so on");
        book.takes(0, 11, () -> dying(12), (x, index) -> x.entry(index, 0), (x, index) -> 11 - index);
        book.takes(0, 11, () -> dying(13), (x, index) -> x.entry(index, 0), (x, index) -> 12 - index);
        book.takes(0, 11, () -> dying(40), (x, index) -> x.entry(index, 0), (x, index) -> 39 - index);

        book.says("- `what`: 0 the number of the grant, 1 the time when it died (after the tick, if it died by one), 2 its "
                + "lender");
        book.takes(0, 11, () -> dying(13), (x, index) -> x.entry(index, 1), (x, index) -> 13 - index);
        book.takes(0, 11, () -> dying(13), (x, index) -> x.entry(index, 2), (x, index) -> 9);
        LentRights x = Made.line();
        x.pass(7);
        x.cheer(1, -60);
        x.cheer(0, -11);
        int[][] due = {{0, 7, 0}, {1, 7, 1}};
        for (int index = 0; index < 2; index++) {
            for (int what = 0; what < 3; what++) {
                book.same(due[index][what], x.entry(index, what));
            }
        }
        // Two lenders at once: by the numbers of the grants, whoever gave them.
        LentRights y = Made.furnished();
        y.grant(1, 9, 1, 7, 60);
        y.grant(0, 9, 0, 7, 60);
        y.grant(1, 9, 1, 7, 60);
        y.setBase(0, 0);
        y.setBase(1, 0);
        book.same(3, y.pass(2));
        for (int index = 0; index < 3; index++) {
            book.same(2 - index, y.entry(index, 0));
            book.same(1, y.entry(index, 1));
            book.same(index == 1 ? 0 : 1, y.entry(index, 2));
        }

        book.says("Returns that value.");
        LentRights z = Check.text(Made.line(), "t9;c1-1;t9;");
        book.same(3, z.carryOut());
        book.same(1, z.entry(0, 0));
        book.same(9, z.entry(0, 1));
        book.same(1, z.entry(0, 2));

        book.says("Throws `IndexOutOfBoundsException` if not so many are kept");
        for (int grants : new int[] {1, 2, 11, 12, 13, 40}) {
            int most = Math.min(12, grants) - 1;
            book.refusesOutside(0, most, Book.INDEX, () -> dying(grants), (w, index) -> w.entry(index, 0));
        }
        book.refuses(Book.INDEX, () -> dying(0), w -> w.entry(0, 0));
        book.refuses(Book.INDEX, LentRights::new, w -> w.entry(0, 2));

        book.says("Throws `IllegalArgumentException` if what is out of range");
        book.refusesOutside(0, 2, Book.ARGUMENT, Made::full, (w, what) -> w.entry(0, what));
        book.refusesOutside(0, 2, Book.ARGUMENT, () -> dying(13), (w, what) -> w.entry(11, what));
    }
}
