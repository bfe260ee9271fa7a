import java.util.NoSuchElementException;

/** Promises 10 to 18: the calls that tell values, and the terms behind them. */
public final class ValuesTest {
    private static final Class<IndexOutOfBoundsException> INDEX = IndexOutOfBoundsException.class;
    private static final Class<IllegalArgumentException> ARGUMENT = IllegalArgumentException.class;
    private static final Class<NoSuchElementException> ELEMENT = NoSuchElementException.class;
    private static final int[] NO_PERSONS = {-1, 10, Integer.MIN_VALUE, Integer.MAX_VALUE};
    private static final int[] NO_THINGS = {-1, 3, 8, Integer.MIN_VALUE, Integer.MAX_VALUE};

    private static final Check check = new Check();

    public static void main(String[] args) {
        held();
        heldByParts();
        heldAgainstTheNumbers();
        person();
        thing();
        grantOf();
        chain();
        link();
        chainIsLowest();
        why();
        value();
        entry();
        check.finish();
    }

    /** Three things: 0 with chains, 1 with a mask to see and lend, 2 of another owner. */
    private static LentRights sample() {
        LentRights x = new LentRights();
        x.addThing(0, 7);
        x.addThing(0, 5);
        x.addThing(9, 7);
        x.grant(0, 1, 0, 5, 10);  // 0
        x.grant(1, 2, 0, 5, 20);  // 1
        x.grant(2, 3, 0, 1, 30);  // 2
        x.grant(0, 4, 1, 7, 40);  // 3
        x.grant(4, 5, 1, 1, 50);  // 4
        x.grant(9, 5, 2, 2, 60);  // 5
        return x;
    }

    private static void held() {
        LentRights x = sample();
        int[][] due = {
            {7, 5, 5, 1, 0, 0, 0, 0, 0, 0},
            {7, 0, 0, 0, 5, 1, 0, 0, 0, 0},
            {0, 0, 0, 0, 0, 2, 0, 0, 0, 7},
        };
        for (int thing = 0; thing < 3; thing++) {
            for (int person = 0; person < 10; person++) {
                check.same("10: held(" + person + ", " + thing + ")", due[thing][person], x.held(person, thing));
            }
        }
        for (int no : NO_PERSONS) {
            check.refuses("10: person " + no, INDEX, x, () -> x.held(no, 0));
        }
        for (int no : NO_THINGS) {
            check.refuses("10: thing " + no, INDEX, x, () -> x.held(0, no));
        }
    }

    /** Rights can come from several grants, and the right to lend may come by another one than sight. */
    private static void heldByParts() {
        LentRights x = new LentRights();
        x.addThing(0, 7);
        x.grant(0, 1, 0, 5, 0);  // 0
        x.grant(0, 2, 0, 4, 0);  // 1
        x.grant(1, 2, 0, 1, 0);  // 2
        x.grant(2, 3, 0, 5, 0);  // 3
        check.same("10: by two grants", 5, x.held(2, 0));
        check.same("10: and on to the next", 5, x.held(3, 0));
        x.revoke(2);
        check.same("10: without sight", 4, x.held(2, 0));
        check.same("10: which goes on so", 4, x.held(3, 0));
        check.same("13: it passes on less now", 4, x.grantOf(3, 5));
        x.undo();
        x.revoke(1);
        check.same("10: without the right to lend", 1, x.held(2, 0));
        check.same("10: nothing goes on", 0, x.held(3, 0));
        check.same("13: it passes on nothing now", 0, x.grantOf(3, 5));

        LentRights y = new LentRights();
        y.addThing(0, 7);
        y.grant(0, 1, 0, 7, 0);
        y.grant(1, 2, 0, 7, 0);
        y.grant(2, 1, 0, 7, 0);
        y.grant(2, 3, 0, 7, 0);
        y.revoke(0);
        for (int person = 1; person <= 3; person++) {
            check.same("10: a circle feeds nothing", 0, y.held(person, 0));
        }
        y.give(0, 2);
        check.same("10: a new owner feeds it", 7, y.held(1, 0));
        check.same("10: and what hangs on it", 7, y.held(3, 0));
    }

    /** A chain whose grants have descending numbers: each grant feeds one with a lower number. */
    private static void heldAgainstTheNumbers() {
        LentRights x = new LentRights();
        x.addThing(9, 7);
        for (int owner = 1; owner <= 9; owner++) {
            x.give(0, owner);
            x.grant(owner, owner - 1, 0, 5, owner);  // owner - 1
        }
        for (int person = 0; person < 9; person++) {
            check.same("10: held(" + person + ", 0)", 5, x.held(person, 0));
            check.same("14: chain(" + person + ", 0)", 9 - person, x.chain(person, 0));
            check.same("15: link(" + person + ", 0, ..)", person, x.link(person, 0, 8 - person));
            check.same("19: lostBy(" + (person + 1) + ")", person + 1, x.lostBy(person + 1));
        }
        check.same("20: mostNeeded()", 9, x.mostNeeded());
        check.same("24: meanChain()", 4.5, x.meanChain());
    }

    private static void person() {
        LentRights x = sample();
        x.cheer(4, 7);
        x.setBase(4, 33);
        int[][] due = {
            {60, 60, 2, 2, 2, 0, 3},
            {60, 60, 0, 1, 1, 1, 1},
            {60, 60, 0, 1, 1, 1, 1},
            {60, 60, 0, 1, 0, 1, 1},
            {67, 33, 0, 1, 1, 1, 2},
            {60, 60, 0, 1, 0, 2, 2},
            {60, 60, 0, 0, 0, 0, 0},
            {60, 60, 0, 0, 0, 0, 0},
            {60, 60, 0, 0, 0, 0, 0},
            {60, 60, 1, 1, 1, 0, 4},
        };
        for (int person = 0; person < 10; person++) {
            for (int what = 0; what < 7; what++) {
                check.same("11: person(" + person + ", " + what + ")", due[person][what], x.person(person, what));
            }
        }
        for (int no : NO_PERSONS) {
            check.refuses("11: person " + no, INDEX, x, () -> x.person(no, 7));
        }
        for (int no : new int[] {-1, 7, Integer.MIN_VALUE, Integer.MAX_VALUE}) {
            check.refuses("11: what " + no, ARGUMENT, x, () -> x.person(0, no));
        }
    }

    private static void thing() {
        LentRights x = sample();
        int[][] due = {
            {0, 7, 3, 1 + 2 + 4 + 8, 1, 1 + 2 + 4},
            {0, 5, 2, 1 + 16 + 32, 1, 1 + 16},
            {9, 7, 1, 512, 512 + 32, 512},
        };
        for (int thing = 0; thing < 3; thing++) {
            for (int what = 0; what < 6; what++) {
                check.same("12: thing(" + thing + ", " + what + ")", due[thing][what], x.thing(thing, what));
            }
        }
        for (int no : NO_THINGS) {
            check.refuses("12: thing " + no, INDEX, x, () -> x.thing(no, 6));
        }
        for (int no : new int[] {-1, 6, Integer.MIN_VALUE, Integer.MAX_VALUE}) {
            check.refuses("12: what " + no, ARGUMENT, x, () -> x.thing(0, no));
        }
    }

    private static void grantOf() {
        LentRights x = sample();
        x.revoke(1);
        int[][] due = {
            {0, 1, 0, 5, 10, 5},
            null,
            {2, 3, 0, 1, 30, 0},
            {0, 4, 1, 7, 40, 5},
            {4, 5, 1, 1, 50, 1},
            {9, 5, 2, 2, 60, 2},
        };
        for (int number = 0; number < due.length; number++) {
            for (int what = 0; what < 6 && due[number] != null; what++) {
                check.same("13: grantOf(" + number + ", " + what + ")", due[number][what], x.grantOf(number, what));
            }
        }
        for (int no : new int[] {-1, 1, 6, Integer.MIN_VALUE, Integer.MAX_VALUE}) {
            check.refuses("13: number " + no, ELEMENT, x, () -> x.grantOf(no, 6));
        }
        for (int no : new int[] {-1, 6, Integer.MIN_VALUE, Integer.MAX_VALUE}) {
            check.refuses("13: what " + no, ARGUMENT, x, () -> x.grantOf(0, no));
        }
    }

    private static void chain() {
        LentRights x = sample();
        int[][] due = {
            {0, 1, 2, 3, -1, -1, -1, -1, -1, -1},
            {0, -1, -1, -1, 1, 2, -1, -1, -1, -1},
            {-1, -1, -1, -1, -1, -1, -1, -1, -1, 0},
        };
        for (int thing = 0; thing < 3; thing++) {
            for (int person = 0; person < 10; person++) {
                check.same("14: chain(" + person + ", " + thing + ")", due[thing][person], x.chain(person, thing));
            }
        }
        x.grant(1, 3, 0, 1, 0);
        check.same("14: a shorter chain", 2, x.chain(3, 0));
        x.grant(1, 0, 0, 1, 0);
        check.same("14: a grant to the owner", 0, x.chain(0, 0));
        x.setMask(0, 6);
        check.same("14: sight is masked", -1, x.chain(1, 0));
        check.same("14: but for the owner", 0, x.chain(0, 0));
        for (int no : NO_PERSONS) {
            check.refuses("14: person " + no, INDEX, x, () -> x.chain(no, 0));
        }
        for (int no : NO_THINGS) {
            check.refuses("14: thing " + no, INDEX, x, () -> x.chain(0, no));
        }
    }

    private static void link() {
        LentRights x = sample();
        check.same("15: link(3, 0, 0)", 0, x.link(3, 0, 0));
        check.same("15: link(3, 0, 1)", 1, x.link(3, 0, 1));
        check.same("15: link(3, 0, 2)", 2, x.link(3, 0, 2));
        check.same("15: link(5, 1, 1)", 4, x.link(5, 1, 1));
        check.refuses("15: no fourth grant", INDEX, x, () -> x.link(3, 0, 3));
        check.refuses("15: place -1", INDEX, x, () -> x.link(3, 0, -1));
        check.refuses("15: far places", INDEX, x, () -> x.link(3, 0, Integer.MAX_VALUE));
        check.refuses("15: the owner's chain is empty", INDEX, x, () -> x.link(0, 0, 0));
        check.refuses("15: no chain", INDEX, x, () -> x.link(4, 0, 0));
        check.refuses("15: no chain, place -1", INDEX, x, () -> x.link(4, 0, -1));
        for (int no : NO_PERSONS) {
            check.refuses("15: person " + no, INDEX, x, () -> x.link(no, 0, 0));
        }
        for (int no : NO_THINGS) {
            check.refuses("15: thing " + no, INDEX, x, () -> x.link(0, no, 0));
        }
    }

    /** Of several shortest chains the one with the lowest last grant counts, then with the lowest last but one. */
    private static void chainIsLowest() {
        LentRights x = new LentRights();
        x.addThing(0, 7);
        x.grant(0, 1, 0, 4, 0);  // 0: no sight, so no link
        x.grant(0, 2, 0, 5, 0);  // 1
        x.grant(0, 1, 0, 5, 0);  // 2
        x.grant(1, 3, 0, 1, 0);  // 3: the lowest last grant, though behind the higher first one
        x.grant(2, 3, 0, 1, 0);  // 4
        x.grant(0, 1, 0, 5, 0);  // 5
        check.same("14: the length", 2, x.chain(3, 0));
        check.same("15: the last grant", 3, x.link(3, 0, 1));
        check.same("15: the last but one", 2, x.link(3, 0, 0));
        x.revoke(2);
        check.same("15: another first grant", 5, x.link(3, 0, 0));
        x.revoke(3);
        check.same("15: another last grant", 4, x.link(3, 0, 1));
        check.same("15: and its first one", 1, x.link(3, 0, 0));

        LentRights y = new LentRights();
        y.addThing(0, 7);
        y.grant(0, 1, 0, 1, 0);  // 0: sight
        y.grant(0, 2, 0, 5, 0);  // 1
        y.grant(2, 1, 0, 4, 0);  // 2: the right to lend, by another grant
        y.grant(1, 3, 0, 1, 0);  // 3
        check.same("14: rights by whatever grants", 2, y.chain(3, 0));
        check.same("15: the link with sight", 0, y.link(3, 0, 0));
        y.revoke(2);
        check.same("14: no right to lend on the way", -1, y.chain(3, 0));

        LentRights z = new LentRights();
        z.addThing(0, 7);
        z.grant(0, 1, 0, 7, 0);  // 0
        z.grant(0, 1, 0, 7, 0);  // 1
        z.grant(0, 1, 0, 7, 0);  // 2
        z.revoke(0);
        check.same("15: the lowest that lives", 1, z.link(1, 0, 0));
    }

    private static void why() {
        LentRights x = new LentRights();
        x.addThing(0, 7);
        x.addThing(0, 7);
        x.grant(0, 1, 0, 7, 0);  // 0
        x.grant(0, 2, 0, 7, 0);  // 1
        x.grant(1, 3, 0, 3, 0);  // 2
        x.grant(2, 3, 0, 1, 0);  // 3
        x.grant(0, 4, 1, 3, 0);  // 4
        check.same("16: holds it", 0, x.why(3, 0, 1));
        check.same("16: the owner holds it", 0, x.why(0, 0, 4));
        check.same("16: no grant has it", 2, x.why(3, 0, 4));
        check.same("16: none for this thing", 2, x.why(4, 0, 1));
        check.same("16: none to this person", 2, x.why(5, 0, 1));
        x.revoke(0);
        check.same("16: by the other grant", 0, x.why(3, 0, 1));
        check.same("16: no lender can lend", 3, x.why(3, 0, 2));
        x.revoke(1);
        check.same("16: none of two can lend", 3, x.why(3, 0, 1));
        x.grant(0, 2, 0, 4, 0);  // 5
        check.same("16: the one who can lend lacks it", 4, x.why(3, 0, 1));
        check.same("16: the one who has it can't lend", 3, x.why(3, 0, 2));
        x.setMask(0, 6);
        check.same("16: the mask comes first", 1, x.why(3, 0, 1));
        check.same("16: the mask, without a grant", 1, x.why(7, 0, 1));
        check.same("16: not for the owner", 0, x.why(0, 0, 1));
        x.setMask(0, 3);
        check.same("16: the mask lets nobody lend", 3, x.why(3, 0, 1));
        for (int no : NO_PERSONS) {
            check.refuses("16: person " + no, INDEX, x, () -> x.why(no, 0, 3));
        }
        for (int no : new int[] {-1, 2, 8, Integer.MIN_VALUE, Integer.MAX_VALUE}) {
            check.refuses("16: thing " + no, INDEX, x, () -> x.why(0, no, 3));
        }
        for (int no : new int[] {-1, 0, 3, 5, 6, 7, 8, Integer.MIN_VALUE}) {
            check.refuses("16: right " + no, ARGUMENT, x, () -> x.why(0, 0, no));
        }
    }

    private static void value() {
        LentRights x = sample();
        x.cheer(2, -40);
        x.cheer(1, -41);
        x.revoke(4);
        x.pass(17);
        int[] due = {3, 3, 6, 2, 1, 17, 3 + 2, 0, 2};
        for (int what = 0; what < due.length; what++) {
            check.same("17: value(" + what + ")", due[what], x.value(what));
        }
        x.setMask(1, 0);
        check.same("17: a grant passes on nothing", 1, x.value(7));
        for (int no : new int[] {-1, 9, Integer.MIN_VALUE, Integer.MAX_VALUE}) {
            check.refuses("17: what " + no, ARGUMENT, x, () -> x.value(no));
        }
    }

    private static void entry() {
        LentRights x = new LentRights();
        check.refuses("18: an empty log", INDEX, x, () -> x.entry(0, 0));
        x.addThing(0, 7);
        for (int number = 0; number < 14; number++) {
            x.grant(0, 1, 0, 1, 46 + number);
        }
        x.cheer(0, -1);
        check.same("18: all live at the highest threshold", 0, x.value(8));
        x.setBase(0, 0);
        check.same("18: the first ones die", 3, x.pass(3));
        x.setBase(0, 100);
        x.cheer(0, -40);
        check.same("18: died", 14, x.value(3));
        check.same("18: twelve are kept", 12, x.value(8));
        // 13, 12, 11 died by ticks 1, 2, 3; then 0 to 10 at once, at the time 3.
        for (int index = 0; index < 11; index++) {
            check.same("18: number", 10 - index, x.entry(index, 0));
            check.same("18: time", 3, x.entry(index, 1));
            check.same("18: lender", 0, x.entry(index, 2));
        }
        check.same("18: the oldest number", 11, x.entry(11, 0));
        check.same("18: the oldest time", 3, x.entry(11, 1));
        for (int no : new int[] {-1, 12, Integer.MIN_VALUE, Integer.MAX_VALUE}) {
            check.refuses("18: index " + no, INDEX, x, () -> x.entry(no, 3));
        }
        for (int no : new int[] {-1, 3, Integer.MIN_VALUE, Integer.MAX_VALUE}) {
            check.refuses("18: what " + no, ARGUMENT, x, () -> x.entry(0, no));
        }
    }
}
