/** Promises 25 to 27, and what the terms say about the text. */
final class EdgesOfText {
    private static final String DIGITS = "0123456789";
    private static final String ORDERS = "g0107,060;v12;c3+04;t12;";
    // The bytes that can stand at each place of ORDERS; none of them makes a number too great.
    private static final String[] FITTING = {
        "gvct", DIGITS, DIGITS, "01234567", "1234567", ",", DIGITS, DIGITS + ";", DIGITS + ";", ";",
        "gvct", DIGITS, DIGITS + ";", DIGITS + ";",
        "gvct", DIGITS, "+-", DIGITS, DIGITS + ";", DIGITS + ";",
        "gvct", "123456789", DIGITS + ";", ";",
    };

    private final Book book;

    EdgesOfText(Book book) {
        this.book = book;
    }

    void tell() {
        book.section("Terms");
        length();
        grants();
        revokesAndTicks();
        moods();
        spaces();
        zeros();
        position();
        ranges();
        append();
        clearText();
        carryOut();
        refusedOrders();
        oneState();
        answers();
    }

    /** The text has its syntax error at the position, and carryOut() changes nothing. */
    private void fault(int position, String orders) {
        book.changesNothing(-10 - position, () -> Made.written(orders), LentRights::carryOut);
    }

    /** The text has no syntax error, though orders may be refused. */
    private void fine(String orders) {
        book.holds(Made.written(orders).carryOut() >= 0);
    }

    private void length() {
        book.says("The text has at most 100 bytes.");
        String orders = "t1;".repeat(32) + "t01;";
        book.same(100, orders.length());
        LentRights x = Check.text(new LentRights(), orders);
        book.same(33, x.carryOut());
        book.same(33, x.value(5));
        book.refuses(Book.STATE, () -> Made.written(orders), y -> y.append(';'));
        fault(100, "t1;".repeat(33) + "t");
        fault(99, "t1;".repeat(33) + ";");
        fault(98, "t1;".repeat(32) + "t1 ;");
        book.same(100, Made.written("t1;".repeat(33)).append('t'));
    }

    private void orders() {
        book.says("It is a sequence of orders, each terminated by a semicolon: \"g\", four digits - the lender, the borrower, "
                + "a thing 0 to 7 and a set of rights 1 to 7 - , a comma, and a threshold of one to three digits, 0 to 100, "
                + "to give a grant; \"v\" and a grant number of one to three digits, to revoke it; \"c\", a person digit, "
                + "\"+\" or \"-\", and a number of one to three digits, 0 to 100, to change a mood by so much; \"t\" and a "
                + "number of one or two digits, 1 to 50, to let so many ticks pass.");
    }

    private void grants() {
        orders();
        for (int person = 0; person < 10; person++) {
            int next = (person + 1) % 10;
            LentRights x = Made.one();
            x.give(0, person);
            book.same(1, Check.text(x, "g" + person + next + "07,0;").carryOut());
            book.same(person, x.grantOf(0, 0));
            book.same(next, x.grantOf(0, 1));
        }
        for (int thing = 0; thing < 8; thing++) {
            LentRights x = Check.text(Made.furnished(), "g" + thing + "9" + thing + "7,0;");
            book.same(1, x.carryOut());
            book.same(thing, x.grantOf(0, 2));
        }
        for (int rights = 1; rights <= 7; rights++) {
            LentRights x = Check.text(Made.one(), "g010" + rights + ",0;");
            book.same(1, x.carryOut());
            book.same(rights, x.grantOf(0, 3));
        }
        for (int threshold = 0; threshold <= 100; threshold++) {
            LentRights x = Check.text(Made.one(), "c0+40;g0107," + threshold + ";");
            book.same(2, x.carryOut());
            book.same(threshold, x.grantOf(0, 4));
        }
        fault(3, "g0181,0;");
        fault(3, "g0197,0;");
        fault(4, "g0100,0;");
        fault(4, "g0108,0;");
        fault(4, "g0109,0;");
        for (int threshold = 101; threshold <= 999; threshold++) {
            fault(6, "g0107," + threshold + ";");
        }
        fault(5, "g01070;");
        fault(6, "g0107,;");
        fault(6, "g0107,-1;");
        fault(9, "g0107,1000;");
        fault(7, "g0107,0");
        fault(0, "G0107,0;");
    }

    private void revokesAndTicks() {
        orders();
        for (int number = 0; number < 40; number++) {
            int revoked = number;
            Book.Maker maker = () -> {
                LentRights x = Check.text(Made.crowded(), "v" + revoked + ";");
                x.carryOut();
                return x;
            };
            book.same(1, maker.make().value(4));
            book.same(39, maker.make().value(1));
            book.refuses(Book.ELEMENT, maker, x -> x.grantOf(revoked, 0));
        }
        for (int number = 40; number <= 999; number++) {
            book.same(0, Check.text(Made.crowded(), "v" + number + ";").carryOut());
        }
        fault(4, "v1000;");
        fault(1, "v;");
        fault(1, "v-1;");
        fault(2, "v0");
        fault(0, "V0;");
        for (int ticks = 1; ticks <= 50; ticks++) {
            LentRights x = Check.text(new LentRights(), "t" + ticks + ";");
            book.same(1, x.carryOut());
            book.same(ticks, x.value(5));
        }
        fault(1, "t0;");
        for (int ticks = 51; ticks <= 99; ticks++) {
            fault(1, "t" + ticks + ";");
        }
        fault(3, "t100;");
        fault(1, "t;");
        fault(1, "t-1;");
        fault(2, "t1");
        fault(0, "T1;");
    }

    private void moods() {
        orders();
        for (int person = 0; person < 10; person++) {
            LentRights x = Check.text(new LentRights(), "c" + person + "+9;");
            book.same(1, x.carryOut());
            book.same(69, x.person(person, 0));
        }
        for (int amount = 0; amount <= 100; amount++) {
            LentRights x = Check.text(new LentRights(), "c4+" + amount + ";c5-" + amount + ";");
            book.same(2, x.carryOut());
            book.same(Math.min(100, 60 + amount), x.person(4, 0));
            book.same(Math.max(0, 60 - amount), x.person(5, 0));
        }
        for (int amount = 101; amount <= 999; amount++) {
            fault(3, "c4+" + amount + ";");
            fault(3, "c4-" + amount + ";");
        }
        fault(6, "c4+1000;");
        fault(3, "c4+;");
        fault(3, "c4--1;");
        fault(2, "c41;");
        fault(2, "c10+1;");
        fault(1, "c+1;");
        fault(4, "c4+1");
        fault(0, "C4+1;");
    }

    private void spaces() {
        book.says("There are no spaces; there may be no orders.");
        for (int place = 0; place <= ORDERS.length(); place++) {
            fault(place, ORDERS.substring(0, place) + " " + ORDERS.substring(place));
        }
        book.undoable(0, LentRights::new, LentRights::carryOut);
        book.undoable(0, () -> Made.written(""), LentRights::carryOut);
        fault(0, ";");
    }

    private void zeros() {
        book.says("Numbers can have zeros in front.");
        LentRights x = Check.text(Made.one(), "g0107,007;g0107,07;g0107,000;v00;v002;c1+003;c1-01;c2-000;t01;t05;");
        book.same(10, x.carryOut());
        book.same(7, x.grantOf(1, 4));
        book.same(2, x.value(4));
        book.same(6, x.value(5));
        book.same(60, x.person(1, 0));
        book.same(60, x.person(2, 0));
        LentRights y = Check.text(new LentRights(), "c1+003;c2-01;c3+099;c4-010;");
        book.same(4, y.carryOut());
        book.same(63, y.person(1, 0));
        book.same(59, y.person(2, 0));
        book.same(100, y.person(3, 0));
        book.same(50, y.person(4, 0));
        fault(9, "g0107,0007;");
        fault(4, "v0000;");
        fault(6, "c1+0003;");
        fault(3, "t001;");
    }

    private void position() {
        book.says("The syntax error position is the index of the first byte that cannot stand where it stands (a digit too "
                + "many, too), or the length of the text if the text ends too early.");
        for (int place = 0; place < ORDERS.length(); place++) {
            String front = ORDERS.substring(0, place);
            fault(place, front + "x" + ORDERS.substring(place + 1));
            boolean isWhole = place == 0 || front.endsWith(";");
            if (isWhole) {
                fine(front);
            } else {
                fault(place, front);
            }
            for (char value = 0; value < 128; value++) {
                if (FITTING[place].indexOf(value) < 0) {
                    fault(place, front + value);
                } else if (value == ';') {
                    fine(front + value);
                } else {
                    fault(place + 1, front + value);
                }
            }
        }
        fine(ORDERS);
        // The first of several errors is told.
        fault(1, "gx;;");
        fault(4, "t1;t;x");
        fault(3, "t1;;;;");
    }

    private void ranges() {
        book.says("For a number that is out of its range it is the index of its first digit, found when a byte that is no "
                + "digit, whichever it is, or the end of the text, follows it.");
        String[] fronts = {"g0107,", "c0+", "c0-", "t", "t", "t", "t1;t"};
        String[] numbers = {"101", "999", "101", "51", "0", "00", "99"};
        for (int place = 0; place < fronts.length; place++) {
            int first = fronts[place].length();
            String text = fronts[place] + numbers[place];
            fault(first, text);
            for (char value = 0; value < 128; value++) {
                boolean isDigit = value >= '0' && value <= '9';
                if (!isDigit) {
                    fault(first, text + value);
                    fault(first, text + value + ";");
                } else if (!numbers[place].equals("0")) {
                    // A digit too many is an error of its own place.
                    fault(text.length(), text + value);
                }
            }
        }
        // What is not too great yet can still become so, or end well.
        fault(2, "t5");
        fault(1, "t52");
        fine("t05;");
        fault(5, "c0+10");
        fault(3, "c0+102");
        fine("c0+100;");
        fine("g0107,100;");
        fine("t50;");
        // A number that is in its range is not the error, but the byte behind it.
        fault(6, "c0+100x");
        fault(3, "t50x");
        // The first error is told, be it a number's or a byte's.
        fault(1, "t51;x");
        fault(0, "xt51;");
        fault(1, "t0;t51;");
    }

    private void append() {
        book.section("Promise 25: append");
        book.says("Appends a byte to the text.");
        LentRights x = new LentRights();
        for (char value : "t7;c3-5;".toCharArray()) {
            x.append(value);
        }
        book.same(2, x.carryOut());
        book.same(7, x.value(5));
        book.same(55, x.person(3, 0));
        x.append('v');
        book.same(-19, x.carryOut());
        // What was wrong once is right with more bytes.
        x.append('9');
        book.same(-20, x.carryOut());
        x.append(';');
        book.same(2, x.carryOut());
        book.same(14, x.value(5));
        // It saves no state.
        book.refuses(Book.STATE, () -> Check.text(new LentRights(), "t7;"), LentRights::undo);

        book.says("- `value`: the byte, 0 to 127");
        book.takes(0, 127, LentRights::new, (y, value) -> y.append(value), (y, value) -> 1);
        book.takes(0, 127, LentRights::new, (y, value) -> {
            y.append(value);
            return y.carryOut();
        }, (y, value) -> "gvct".indexOf(value) >= 0 ? -11 : -10);

        book.says("Returns the new length of the text.");
        LentRights z = new LentRights();
        for (int length = 1; length <= 100; length++) {
            book.same(length, z.append('0'));
        }
        z.clearText();
        book.same(1, z.append('0'));

        book.says("Throws `IllegalArgumentException` if value is out of range");
        book.refusesOutside(0, 127, Book.ARGUMENT, Made::full, (y, value) -> y.append(value));
        book.refusesOutside(0, 127, Book.ARGUMENT, LentRights::new, (y, value) -> y.append(value));

        book.says("Throws `IllegalStateException` if the text has 100 bytes");
        for (int value : new int[] {0, ';', 127}) {
            book.refuses(Book.STATE, () -> Made.written("t1;".repeat(33) + "x"), y -> y.append(value));
        }
        book.same(100, Made.written("t1;".repeat(33)).append(0));
    }

    private void clearText() {
        book.section("Promise 26: clearText");
        book.says("Empties the text.");
        LentRights x = Made.full();
        x.clearText();
        book.same(0, x.carryOut());
        x.append('t');
        x.append('2');
        x.append(';');
        book.same(1, x.carryOut());
        book.same(2, x.value(5));
        // It saves no state, and its text does not come back.
        LentRights y = Made.one();
        Check.text(y, "t1;").clearText();
        book.same(0, y.undo());
        book.same(0, y.carryOut());

        book.says("Returns the length that it had.");
        for (int length = 0; length <= 100; length++) {
            LentRights z = Check.text(new LentRights(), "x".repeat(length));
            book.same(length, z.clearText());
            book.same(0, z.clearText());
        }
    }

    private void carryOut() {
        book.section("Promise 27: carryOut");
        book.says("Carries out the orders of the text, up to the first one that would throw an exception (that one is not "
                + "carried out).");
        // The orders do what the calls do: the same state is left, and four states are saved in both.
        String orders = "c0+1;g0107,60;g1203,0;v1;t2;c0-100;v9;t5;";
        LentRights x = Made.written(orders);
        LentRights y = Made.written(orders);
        book.same(6, x.carryOut());
        y.cheer(0, 1);
        y.grant(0, 1, 0, 7, 60);
        y.grant(1, 2, 0, 3, 0);
        y.revoke(1);
        y.pass(2);
        y.cheer(0, -100);
        book.sameLong(y.digest(), x.digest());
        // An order can need what one before it did.
        LentRights z = Check.text(Made.one(), "g0107,0;g1207,0;g2307,0;v0;g3407,0;");
        book.same(4, z.carryOut());
        book.same(3, z.value(2));

        book.says("The text stays as it is.");
        LentRights w = Check.text(new LentRights(), "t3;c0+1;");
        for (int call = 1; call <= 5; call++) {
            book.same(2, w.carryOut());
            book.same(3 * call, w.value(5));
        }
        book.same(8, w.clearText());
        LentRights v = Made.written("t1;v99;t1;");
        book.same(1, v.carryOut());
        book.same(1, v.carryOut());
        book.same(10, v.clearText());
        LentRights u = Made.written("t1;x");
        book.same(-13, u.carryOut());
        book.same(-13, u.carryOut());
        book.same(4, u.clearText());
    }

    /** The order is the first that would throw: nothing of it is carried out, nor what stands behind it. */
    private void stops(String order, Book.Maker maker) {
        Book.Maker none = () -> Check.text(maker.make(), order + "c9+1;");
        book.undoable(0, none, LentRights::carryOut);
        LentRights x = none.make();
        LentRights y = none.make();
        x.carryOut();
        // It saves a state, as setting a base to what it is does.
        y.setBase(9, 60);
        book.sameLong(y.digest(), x.digest());
        Book.Maker one = () -> Check.text(maker.make(), "c8+1;" + order + "c9+1;");
        book.undoable(1, one, LentRights::carryOut);
        LentRights z = one.make();
        LentRights w = one.make();
        z.carryOut();
        w.cheer(8, 1);
        book.sameLong(w.digest(), z.digest());
    }

    private void refusedOrders() {
        book.says("Carries out the orders of the text, up to the first one that would throw an exception (that one is not "
                + "carried out).");
        stops("g0127,0;", Made::full);
        stops("g0177,0;", Made::full);
        stops("g0007,0;", Made::full);
        stops("g4507,0;", Made::full);
        stops("g2301,0;", Made::full);
        stops("g1303,0;", Made::full);
        stops("g0107,60;", Made::full);
        stops("g0107,100;", Made::full);
        stops("g0101,0;", Made::crowded);
        stops("v4;", Made::full);
        stops("v5;", Made::full);
        stops("v6;", Made::full);
        stops("v999;", Made::full);
        Book.Maker last = () -> {
            LentRights x = Made.late();
            x.pass(50);
            return x;
        };
        stops("t1;", last);
        stops("t50;", last);
        LentRights y = Check.text(Made.late(), "t50;t1;");
        book.same(1, y.carryOut());
        book.same(100000, y.value(5));
        LentRights z = Check.text(Made.late(), "t49;t2;t1;");
        book.same(1, z.carryOut());
        book.same(99999, z.value(5));
    }

    private void oneState() {
        book.says("Undoable (one saved state, also if no order is carried out), if there is no syntax error.");
        for (String orders : new String[] {"", "t1;", "v99;", "t1;t1;t1;t1;t1;t1;", "g0107,0;c0-100;", "t1;v99;"}) {
            LentRights x = Check.text(new LentRights(), orders);
            x.carryOut();
            book.same(0, x.undo());
            book.sameLong(Check.text(new LentRights(), orders).digest(), x.digest());
        }
        book.undoable(6, () -> Check.text(Made.line(), "g0107,0;c0-100;t1;t2;t3;v2;"), LentRights::carryOut);
        book.undoable(2, Made::full, LentRights::carryOut);
        book.undoable(0, () -> Made.written("v99;"), LentRights::carryOut);
        book.refuses(Book.STATE, () -> {
            LentRights x = Check.text(new LentRights(), "t1;t");
            x.carryOut();
            return x;
        }, LentRights::undo);
    }

    private void answers() {
        book.says("Returns the number of orders that are carried out; -10 minus the syntax error position if there is a syntax "
                + "error (then nothing changes).");
        for (int orders = 0; orders <= 33; orders++) {
            LentRights x = Check.text(new LentRights(), "t1;".repeat(orders));
            book.same(orders, x.carryOut());
            book.same(orders, x.value(5));
            fault(3 * orders, "t1;".repeat(orders) + "x");
            if (orders < 33) {
                fault(3 * orders + 1, "t1;".repeat(orders) + "t");
                fault(3 * orders + 2, "t1;".repeat(orders) + "t1");
            }
        }
        // No order in front of the error is carried out, nor is the refusal of one told.
        fault(4, "t1;g");
        fault(9, "v99;t1;c0;");
        fault(4, "v99;x");
    }
}
