import java.util.stream.IntStream;

/** What the document says once for all promises. */
final class EdgesOfTerms {
    private final Book book;

    EdgesOfTerms(Book book) {
        this.book = book;
    }

    void tell() {
        use();
        book.section("Terms");
        persons();
        things();
        rights();
        grants();
        numbers();
        livingGrants();
        death();
        held();
        anyOrder();
        circle();
        chains();
        shortest();
        ticks();
        log();
        exceptions();
        firstException();
        rest();
    }

    private void use() {
        book.section("What it is");
        book.asksNothing("Rights to things that are lent from person to person and die with the mood of the lender: "
                + "owners, masks of things, grants with a threshold, moods that go back to their base tick by tick, "
                + "rights that are held by chains of living grants, shortest chains, reasons why a right is not held, "
                + "what-if questions, and orders that are read from a text.");
        book.says("An object is used for at most 512 calls after it has been made; what later calls answer is free.");
        LentRights x = new LentRights();
        for (int call = 1; call < 512; call++) {
            x.pass(100);
        }
        book.same(51100, x.value(5));
        LentRights y = Made.one();
        for (int pair = 0; pair < 255; pair++) {
            book.same(pair, y.grant(0, 1, 0, 7, 0));
            book.same(1, y.revoke(pair));
        }
        book.same(255, y.value(4));
    }

    private void persons() {
        book.says("There are 10 persons, numbered from 0.");
        book.takes(0, 9, LentRights::new, (x, person) -> x.addThing(person, 0), (x, person) -> 0);
        book.takes(0, 9, Made::furnished, (x, person) -> x.patience(person), (x, person) -> 60);
        book.refusesOutside(0, 9, Book.INDEX, Made::full, (x, person) -> x.person(person, 0));
        LentRights all = Made.one();
        for (int person = 1; person < 10; person++) {
            all.grant(0, person, 0, 7, 0);
        }
        book.same(1023, all.thing(0, 3));

        book.says("Each has a mood and a base, both 0 to 100, initially 60.");
        for (int person = 0; person < 10; person++) {
            LentRights x = new LentRights();
            book.same(60, x.person(person, 0));
            book.same(60, x.person(person, 1));
            book.same(100, x.cheer(person, 40));
            book.same(100, x.cheer(person, 1));
            book.same(0, x.cheer(person, -100));
            book.same(0, x.cheer(person, -1));
            book.same(60, x.setBase(person, 100));
            book.same(100, x.setBase(person, 0));
            book.same(0, x.person(person, 1));
            book.same(0, x.person(person, 0));
            book.same(60, x.person((person + 1) % 10, 0));
        }
    }

    private void things() {
        book.says("There are at most 8 things, numbered from 0.");
        LentRights x = new LentRights();
        for (int thing = 0; thing < 8; thing++) {
            int no = thing;
            book.refuses(Book.INDEX, LentRights::new, y -> y.held(0, no));
            book.same(thing, x.addThing(9 - thing, thing));
        }
        for (int thing = 0; thing < 8; thing++) {
            book.same(7, x.held(9 - thing, thing));
        }
        book.refuses(Book.STATE, Made::furnished, y -> y.addThing(0, 7));
        book.refuses(Book.INDEX, Made::furnished, y -> y.held(0, 8));
        book.same(128, Made.furnished().person(7, 6));

        book.says("A thing has an owner and a mask.");
        for (int thing = 0; thing < 8; thing++) {
            book.same(9 - thing, x.thing(thing, 0));
            book.same(thing, x.thing(thing, 1));
        }
    }

    private void rights() {
        book.says("A set of rights is a number from 0 to 7: 1 to see, 2 to use, 4 to lend, added up.");
        for (int rights = 1; rights <= 7; rights++) {
            LentRights x = Made.one();
            x.grant(0, 1, 0, rights, 0);
            book.same(rights, x.held(1, 0));
            book.same((rights & 1) != 0 ? 3 : 1, x.thing(0, 3));
            book.same((rights & 2) != 0 ? 3 : 1, x.thing(0, 4));
            book.same((rights & 4) != 0 ? 3 : 1, x.thing(0, 5));
            book.same((rights & 4) != 0 ? 0 : -1, Math.min(0, x.gainBy(1, 2, 0, rights, 0)));
        }

        book.says("The owner of a thing holds all rights to it.");
        for (int mask = 0; mask <= 7; mask++) {
            LentRights x = new LentRights();
            x.addThing(3, mask);
            book.same(7, x.held(3, 0));
            book.same(0, x.why(3, 0, 1) + x.why(3, 0, 2) + x.why(3, 0, 4));
            book.same(0, x.grant(3, 4, 0, 7, 0));
        }

        book.says("The mask of a thing is the set of the rights that others can hold to it.");
        for (int mask = 0; mask <= 7; mask++) {
            LentRights x = new LentRights();
            x.addThing(3, mask);
            x.addThing(3, 7);
            x.grant(3, 4, 0, 7, 0);
            x.grant(3, 4, 1, 7, 0);
            book.same(mask, x.held(4, 0));
            book.same(7, x.held(4, 1));
            x.setMask(0, 7 - mask);
            book.same(7 - mask, x.held(4, 0));
        }
    }

    private void grants() {
        book.says("A grant is given by a lender to a borrower, another person, for a thing; it has a set of rights and a "
                + "threshold, 0 to 100.");
        LentRights x = Made.furnished();
        x.cheer(7, 40);
        x.grant(7, 0, 7, 7, 100);
        x.grant(7, 9, 7, 1, 0);
        int[][] due = {{7, 0, 7, 7, 100}, {7, 9, 7, 1, 0}};
        for (int number = 0; number < 2; number++) {
            for (int what = 0; what < 5; what++) {
                book.same(due[number][what], x.grantOf(number, what));
            }
        }
        for (int person = 0; person < 10; person++) {
            int no = person;
            book.refuses(Book.ARGUMENT, Made::one, y -> y.grant(no, no, 0, 1, 0));
        }
        book.refusesOutside(0, 100, Book.ARGUMENT, Made::one, (y, threshold) -> y.grant(0, 1, 0, 1, threshold));
    }

    private void numbers() {
        book.says("Grants are numbered from 0 as they are given; a number is not used again (except behind undo(), which "
                + "restores the next number, too).");
        LentRights x = Made.one();
        book.same(0, x.grant(0, 1, 0, 1, 0));
        x.revoke(0);
        book.same(1, x.grant(0, 1, 0, 1, 60));
        x.cheer(0, -1);
        book.same(1, x.value(3));
        book.same(2, x.grant(0, 1, 0, 1, 0));
        book.same(-1, x.gainBy(0, 1, 0, 1, 60));
        book.same(1, x.gainBy(0, 2, 0, 1, 0));
        book.same(3, x.grant(0, 1, 0, 1, 0));
        book.same(3, x.undo());
        book.same(3, x.value(2));
        book.same(3, x.grant(0, 2, 0, 1, 0));
        book.same(3, Check.text(x, "g0101,0;v4;g0101,0;").carryOut());
        book.same(6, x.grant(0, 1, 0, 1, 0));
        x.undo();
        x.undo();
        book.same(4, x.grant(0, 1, 0, 1, 0));
    }

    private void livingGrants() {
        book.says("At most 40 grants live.");
        LentRights x = Made.crowded();
        book.same(40, x.value(1));
        book.same(40, x.thing(0, 2));
        book.refuses(Book.STATE, Made::crowded, y -> y.grant(0, 2, 0, 1, 0));
        book.same(0, x.revoke(39));
        book.same(39, x.value(1));
        book.same(40, x.grant(0, 1, 0, 7, 60));
        book.same(40, x.value(1));
        book.changesNothing(-1, Made::crowded, y -> y.gainBy(0, 2, 0, 1, 0));
        x.cheer(0, -1);
        book.same(0, x.value(1));
        book.same(41, x.grant(0, 1, 0, 7, 0));
    }

    private void death() {
        book.says("A grant dies when the mood of its lender is below its threshold; it does not come back.");
        for (int threshold = 0; threshold <= 100; threshold += 20) {
            LentRights x = Made.one();
            x.cheer(0, 40);
            x.grant(0, 1, 0, 7, threshold);
            x.cheer(0, threshold - 100);
            book.same(1, x.value(1));
            book.same(threshold, x.person(0, 0));
            x.cheer(0, -1);
            book.same(threshold == 0 ? 1 : 0, x.value(1));
            book.same(threshold == 0 ? 7 : 0, x.held(1, 0));
            x.cheer(0, 100);
            book.same(threshold == 0 ? 1 : 0, x.value(1));
            x.pass(40);
            book.same(threshold == 0 ? 7 : 0, x.held(1, 0));
        }
        // The borrower's mood does not matter, nor a base until a tick passes.
        LentRights y = Made.line();
        y.cheer(2, -100);
        y.setBase(0, 0);
        book.same(2, y.value(1));
        book.same(1, y.held(2, 0));
    }

    private void held() {
        book.says("A person who is not the owner of a thing holds just those rights to it that some living grant passes "
                + "on to this person.");
        LentRights x = Made.furnished();
        x.grant(0, 9, 0, 1, 0);
        book.same(1, x.held(9, 0));
        x.grant(0, 9, 0, 2, 1);
        book.same(3, x.held(9, 0));
        x.grant(0, 9, 0, 6, 0);
        book.same(7, x.held(9, 0));
        book.same(0, x.held(9, 1));
        book.same(0, x.held(8, 0));
        x.cheer(0, -100);
        book.same(7, x.held(9, 0));
        x.revoke(2);
        book.same(1, x.held(9, 0));
        x.give(0, 1);
        book.same(0, x.held(0, 0));

        book.says("A grant whose lender holds the right to lend the thing passes on those of its rights that its lender "
                + "holds, too, and that are in the mask of the thing.");
        for (int rights = 0; rights <= 7; rights++) {
            for (int mask = 0; mask <= 7; mask++) {
                LentRights y = Made.one();
                y.grant(0, 1, 0, 7, 0);
                y.grant(1, 2, 0, 7, 0);
                if (rights > 0) {
                    y.grant(0, 1, 0, rights, 0);
                }
                y.revoke(0);
                y.setMask(0, mask);
                int passed = (rights & mask & 4) == 0 ? 0 : rights & mask;
                book.same(passed, y.grantOf(1, 5));
                book.same(passed, y.held(2, 0));
            }
        }
    }

    /** The same grants pass on the same, in whatever order they were given. */
    private void anyOrder() {
        book.says("A person who is not the owner of a thing holds just those rights to it that some living grant passes "
                + "on to this person.");
        int[][] grants = {{0, 1, 4}, {0, 1, 1}, {1, 2, 5}, {2, 3, 7}};
        for (int order = 0; order < 256; order++) {
            int[] places = {order % 4, order / 4 % 4, order / 16 % 4, order / 64};
            if (IntStream.of(places).distinct().count() == 4) {
                LentRights x = Made.one();
                for (int place : places) {
                    // Who owns the thing can give every grant for it.
                    x.give(0, grants[place][0]);
                    x.grant(grants[place][0], grants[place][1], 0, grants[place][2], 0);
                }
                x.give(0, 0);
                for (int person = 1; person <= 3; person++) {
                    book.same(5, x.held(person, 0));
                    book.same(person, x.chain(person, 0));
                }
            }
        }
    }

    private void circle() {
        book.says("(A circle of grants that nobody outside of it feeds passes on nothing.)");
        LentRights x = Made.one();
        x.grant(0, 1, 0, 7, 1);
        for (int person = 1; person < 10; person++) {
            x.grant(person, person % 9 + 1, 0, 7, 0);
        }
        book.same(1023, x.thing(0, 3));
        x.cheer(0, -100);
        book.same(1, x.thing(0, 3));
        book.same(9, x.value(7));
        for (int number = 1; number < 10; number++) {
            book.same(0, x.grantOf(number, 5));
        }
        x.grant(0, 5, 0, 5, 0);
        book.same(1023, x.thing(0, 3));
        book.same(0, x.value(7));
    }

    private void chains() {
        book.says("A chain to a person who sees a thing (holds the right to see it) is a row of living grants for the "
                + "thing, the first one given by its owner, each other one given by the borrower of the one before it, the "
                + "last one to this person; all of them have the right to see, and all their lenders hold the rights to see "
                + "and to lend (by whatever grants).");
        LentRights x = Made.furnished();
        x.grant(0, 8, 0, 4, 0);  // 0: for the right thing, but without sight
        book.same(-1, x.chain(8, 0));
        x.grant(1, 8, 1, 7, 0);  // 1: for another thing
        book.same(-1, x.chain(8, 0));
        x.grant(8, 9, 1, 1, 0);  // 2
        book.same(2, x.chain(9, 1));
        book.same(-1, x.chain(9, 0));
        x.grant(0, 2, 0, 7, 0);  // 3
        x.grant(2, 8, 0, 1, 0);  // 4: sight by it, the right to lend by the grant 0
        x.grant(8, 9, 0, 1, 0);  // 5
        book.same(3, x.chain(9, 0));
        book.same(3, x.link(9, 0, 0));
        book.same(4, x.link(9, 0, 1));
        book.same(5, x.link(9, 0, 2));
        x.revoke(0);
        book.same(-1, x.chain(9, 0));
        book.same(2, x.chain(8, 0));
        x.undo();
        x.grant(0, 8, 0, 2, 0);  // 6: neither sight nor the right to lend
        book.same(2, x.chain(8, 0));
        x.give(0, 2);
        book.same(1, x.chain(8, 0));
        book.same(-1, x.chain(9, 0));
    }

    private void shortest() {
        book.says("A shortest chain is one with the fewest grants; of several, the one whose last grant has the lowest "
                + "number, of several of these the one whose last but one has, and so on.");
        LentRights x = Made.one();
        x.grant(0, 1, 0, 5, 0);  // 0
        x.grant(0, 2, 0, 5, 0);  // 1
        x.grant(0, 3, 0, 5, 0);  // 2
        x.grant(2, 4, 0, 5, 0);  // 3
        x.grant(1, 4, 0, 5, 0);  // 4
        x.grant(3, 5, 0, 5, 0);  // 5
        x.grant(5, 6, 0, 5, 0);  // 6
        x.grant(4, 6, 0, 5, 0);  // 7
        x.grant(0, 3, 0, 5, 0);  // 8
        links(x, 6, 2, 5, 6);
        x.revoke(2);
        links(x, 6, 8, 5, 6);
        x.revoke(6);
        links(x, 6, 1, 3, 7);
        x.revoke(3);
        links(x, 6, 0, 4, 7);
        x.grant(5, 6, 0, 1, 0);  // 9
        links(x, 6, 0, 4, 7);
        x.revoke(4);
        links(x, 6, 8, 5, 9);
        x.grant(3, 6, 0, 1, 0);  // 10: fewer grants, though with higher numbers
        links(x, 6, 8, 10);
        x.grant(0, 6, 0, 1, 0);  // 11
        links(x, 6, 11);
        x.give(0, 6);
        links(x, 6);
    }

    private void links(LentRights x, int person, int... due) {
        book.same(due.length, x.chain(person, 0));
        for (int place = 0; place < due.length; place++) {
            book.same(due[place], x.link(person, 0, place));
        }
    }

    private void ticks() {
        book.says("When a tick passes, each mood that is not equal to its base goes 1 towards it.");
        int[] bases = {60, 61, 59, 62, 58, 100, 0, 60, 60, 60};
        int[] one = {60, 61, 59, 61, 59, 61, 59, 99, 1, 60};
        int[] two = {60, 61, 59, 62, 58, 62, 58, 98, 2, 60};
        LentRights x = new LentRights();
        x.cheer(7, 40);
        x.cheer(8, -60);
        for (int person = 0; person < 10; person++) {
            x.setBase(person, bases[person]);
        }
        LentRights y = Made.one();
        y.setBase(0, 100);
        y.setBase(1, 0);
        book.same(0, x.pass(1));
        for (int person = 0; person < 10; person++) {
            book.same(one[person], x.person(person, 0));
        }
        x.pass(1);
        for (int person = 0; person < 10; person++) {
            book.same(two[person], x.person(person, 0));
            book.same(bases[person], x.person(person, 1));
        }
        y.pass(39);
        book.same(99, y.person(0, 0));
        y.pass(2);
        book.same(100, y.person(0, 0));
        y.pass(18);
        book.same(1, y.person(1, 0));
        y.pass(2);
        book.same(0, y.person(1, 0));

        book.says("Then all grants whose lenders' moods are below their thresholds die.");
        LentRights z = Made.furnished();
        z.grant(0, 9, 0, 7, 60);
        z.grant(1, 9, 1, 7, 59);
        z.grant(2, 9, 2, 7, 60);
        z.grant(3, 9, 3, 7, 60);
        for (int person = 0; person < 3; person++) {
            z.setBase(person, 0);
        }
        z.setBase(3, 100);
        book.same(2, z.pass(1));
        book.same(2 + 8, z.person(9, 6));
        book.same(1, z.pass(1));
        book.same(8, z.person(9, 6));
        book.same(0, z.pass(100));
    }

    private void log() {
        book.says("Each grant that dies by a mood is put into a log, in ascending order of the numbers if several die at "
                + "once; the latest 12 entries are kept.");
        for (int grants : new int[] {1, 11, 12, 13, 25, 40}) {
            LentRights x = Made.one();
            for (int number = 0; number < grants; number++) {
                x.grant(0, 1, 0, 1, 60);
            }
            x.cheer(0, -1);
            int kept = Math.min(12, grants);
            book.same(kept, x.value(8));
            book.same(grants, x.value(3));
            for (int index = 0; index < kept; index++) {
                book.same(grants - 1 - index, x.entry(index, 0));
            }
        }
        // One by one, each by a tick of its own.
        LentRights y = Made.one();
        y.setBase(0, 0);
        for (int number = 0; number < 13; number++) {
            y.grant(0, 1, 0, 1, 60 - number);
        }
        for (int dead = 1; dead <= 13; dead++) {
            book.same(1, y.pass(1));
            book.same(Math.min(12, dead), y.value(8));
            book.same(dead - 1, y.entry(0, 0));
            book.same(Math.max(0, dead - 12), y.entry(Math.min(12, dead) - 1, 0));
        }

        book.says("(Revoked grants are not put into it.)");
        LentRights z = Made.line();
        z.revoke(0);
        book.same(0, z.value(8));
        Check.text(z, "v1;").carryOut();
        book.same(0, z.value(8));
        book.same(2, z.value(4));
        book.same(0, z.value(3));
    }

    /** That a refused call changes nothing is looked at by every refuses() of these tests; here once for each method. */
    private void exceptions() {
        book.says("A call that throws an exception changes nothing.");
        book.refuses(Book.INDEX, Made::full, x -> x.addThing(10, 7));
        book.refuses(Book.ARGUMENT, Made::full, x -> x.addThing(0, 8));
        book.refuses(Book.STATE, Made::furnished, x -> x.addThing(0, 7));
        book.refuses(Book.ARGUMENT, Made::full, x -> x.setMask(0, 8));
        book.refuses(Book.ARGUMENT, Made::full, x -> x.setBase(0, 101));
        book.refuses(Book.INDEX, Made::full, x -> x.give(0, 10));
        book.refuses(Book.INDEX, Made::full, x -> x.give(2, 0));
        book.refuses(Book.STATE, Made::full, x -> x.grant(2, 3, 0, 1, 0));
        book.refuses(Book.STATE, Made::full, x -> x.grant(0, 3, 0, 1, 60));
        book.refuses(Book.ELEMENT, Made::full, x -> x.revoke(6));
        book.refuses(Book.ARGUMENT, Made::full, x -> x.cheer(0, 101));
        book.refuses(Book.ARGUMENT, Made::full, x -> x.pass(101));
        book.refuses(Book.STATE, Made::late, x -> x.pass(51));
        book.refuses(Book.INDEX, Made::full, x -> x.held(0, 2));
        book.refuses(Book.ARGUMENT, Made::full, x -> x.person(0, 7));
        book.refuses(Book.ARGUMENT, Made::full, x -> x.thing(0, 6));
        book.refuses(Book.ARGUMENT, Made::full, x -> x.grantOf(0, 6));
        book.refuses(Book.INDEX, Made::full, x -> x.chain(0, 2));
        book.refuses(Book.INDEX, Made::full, x -> x.link(2, 0, 2));
        book.refuses(Book.ARGUMENT, Made::full, x -> x.why(0, 0, 3));
        book.refuses(Book.ARGUMENT, Made::full, x -> x.value(9));
        book.refuses(Book.INDEX, Made::full, x -> x.entry(1, 0));
        book.refuses(Book.INDEX, Made::full, x -> x.lostBy(10));
        book.refuses(Book.ARGUMENT, Made::full, x -> x.seenIn(101));
        book.refuses(Book.ARGUMENT, Made::full, x -> x.gainBy(0, 1, 0, 8, 0));
        book.refuses(Book.INDEX, Made::full, x -> x.patience(10));
        book.refuses(Book.ARGUMENT, Made::full, x -> x.append(128));
        book.refuses(Book.STATE, () -> Made.written("t1;;".repeat(25)), x -> x.append(';'));
        book.refuses(Book.STATE, () -> Check.text(new LentRights(), "t1;"), LentRights::undo);
    }

    /** For each method, each two of its exceptions at once. */
    private void firstException() {
        book.says("If several exceptions apply, the one that is listed first is thrown.");
        book.refuses(Book.INDEX, Made::full, x -> x.addThing(10, 8));
        book.refuses(Book.INDEX, Made::furnished, x -> x.addThing(-1, 7));
        book.refuses(Book.ARGUMENT, Made::furnished, x -> x.addThing(0, 8));
        book.refuses(Book.INDEX, Made::furnished, x -> x.addThing(10, -1));
        book.refuses(Book.INDEX, Made::full, x -> x.setMask(2, 8));
        book.refuses(Book.INDEX, Made::full, x -> x.setBase(10, 101));
        for (int no : new int[] {-1, 10}) {
            book.refuses(Book.INDEX, Made::full, x -> x.grant(no, 1, 0, 8, 0));
            book.refuses(Book.INDEX, Made::full, x -> x.grant(0, no, 0, 1, 101));
            book.refuses(Book.INDEX, Made::full, x -> x.grant(0, 1, no, 0, 0));
            book.refuses(Book.INDEX, Made::full, x -> x.grant(no, no, 0, 1, 0));
            book.refuses(Book.INDEX, Made::full, x -> x.grant(4, 4, no, 1, 0));
            book.refuses(Book.INDEX, Made::full, x -> x.grant(4, 1, no, 1, 0));
            book.refuses(Book.INDEX, Made::full, x -> x.grant(4, no, 0, 1, 0));
            book.refuses(Book.INDEX, Made::crowded, x -> x.grant(no, 1, 0, 1, 0));
            book.refuses(Book.INDEX, Made::full, x -> x.gainBy(no, 1, 0, 8, 0));
            book.refuses(Book.INDEX, Made::full, x -> x.gainBy(0, no, 0, 1, 101));
            book.refuses(Book.INDEX, Made::full, x -> x.gainBy(4, 4, no, 1, 0));
            book.refuses(Book.INDEX, Made::full, x -> x.gainBy(4, no, 0, 1, 0));
            book.refuses(Book.INDEX, Made::crowded, x -> x.gainBy(0, 1, no, 1, 0));
        }
        book.refuses(Book.ARGUMENT, Made::full, x -> x.grant(4, 1, 0, 0, 0));
        book.refuses(Book.ARGUMENT, Made::full, x -> x.grant(4, 1, 0, 1, 101));
        book.refuses(Book.ARGUMENT, Made::full, x -> x.grant(4, 4, 0, 1, 0));
        book.refuses(Book.ARGUMENT, Made::crowded, x -> x.grant(0, 0, 0, 1, 0));
        book.refuses(Book.ARGUMENT, Made::crowded, x -> x.grant(0, 1, 0, 8, 0));
        book.refuses(Book.ARGUMENT, Made::full, x -> x.gainBy(4, 1, 0, 0, 0));
        book.refuses(Book.ARGUMENT, Made::full, x -> x.gainBy(4, 4, 0, 1, 0));
        book.refuses(Book.ARGUMENT, Made::crowded, x -> x.gainBy(0, 1, 0, 1, 101));
        book.refuses(Book.INDEX, Made::full, x -> x.cheer(10, 101));
        book.refuses(Book.ARGUMENT, Made::late, x -> x.pass(101));
        book.refuses(Book.INDEX, Made::full, x -> x.person(10, 7));
        book.refuses(Book.INDEX, Made::full, x -> x.thing(2, 6));
        book.refuses(Book.ELEMENT, Made::full, x -> x.grantOf(6, 6));
        book.refuses(Book.INDEX, Made::full, x -> x.why(10, 0, 3));
        book.refuses(Book.INDEX, Made::full, x -> x.why(0, 2, 3));
        book.refuses(Book.INDEX, Made::full, x -> x.entry(1, 3));
        book.refuses(Book.ARGUMENT, () -> Made.written("t1;;".repeat(25)), x -> x.append(128));
    }

    private void rest() {
        book.says("The constants: `NONE = -1`: There is no such thing.");
        book.same(-1, LentRights.NONE);
        book.asksNothing("Ahead of the calls `addThing`, `setMask`, `setBase`, `give`, `grant`, `revoke`, `cheer`, `pass` "
                + "the interface says: ---- house.");
        book.asksNothing("Ahead of the calls `held`, `person`, `thing`, `grantOf`, `chain`, `link`, `why`, `value`, "
                + "`entry` the interface says: ---- values.");
        book.asksNothing("Ahead of the calls `lostBy`, `mostNeeded`, `seenIn`, `gainBy`, `patience`, `meanChain` the "
                + "interface says: ---- what if.");
        book.asksNothing("Ahead of the calls `append`, `clearText`, `carryOut` the interface says: ---- text.");
        book.asksNothing("Ahead of the calls `undo`, `digest` the interface says: ---- state.");

        book.section("Not promised");
        book.asksNothing("How the state is held inside the object is free, as are the speed of each call, the text of "
                + "toString and the behaviour of equals and hashCode.");
        book.asksNothing("Use of one object from several threads at once is not promised to be safe.");
        book.says("Nothing is promised beyond the answers and state changes described above, and nothing about an object "
                + "after its 512th call.");
        // So the calls on one object change no other one.
        LentRights x = new LentRights();
        LentRights y = Made.full();
        book.sameLong(new LentRights().digest(), x.digest());
        x.addThing(5, 3);
        book.sameLong(Made.full().digest(), y.digest());
    }
}
