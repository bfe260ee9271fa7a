import java.util.NoSuchElementException;

/** Promises 1 to 9: a new object, and the calls that change the house. */
public final class HouseTest {
    private static final Class<IndexOutOfBoundsException> INDEX = IndexOutOfBoundsException.class;
    private static final Class<IllegalArgumentException> ARGUMENT = IllegalArgumentException.class;
    private static final Class<IllegalStateException> STATE = IllegalStateException.class;
    private static final Class<NoSuchElementException> ELEMENT = NoSuchElementException.class;
    private static final int[] NO_PERSONS = {-1, 10, Integer.MIN_VALUE, Integer.MAX_VALUE};

    private static final Check check = new Check();

    public static void main(String[] args) {
        newObject();
        addThing();
        setMask();
        setBase();
        give();
        grant();
        grantIsRefused();
        grantAtTheLimit();
        revoke();
        cheer();
        pass();
        passKillsInOrder();
        passAtTheEndOfTime();
        check.finish();
    }

    private static void newObject() {
        LentRights x = new LentRights();
        check.same("NONE", -1, LentRights.NONE);
        for (int what = 0; what <= 8; what++) {
            check.same("1: value(" + what + ")", 0, x.value(what));
        }
        for (int person = 0; person < 10; person++) {
            check.same("1: mood", 60, x.person(person, 0));
            check.same("1: base", 60, x.person(person, 1));
            for (int what = 2; what <= 6; what++) {
                check.same("1: person(.., " + what + ")", 0, x.person(person, what));
            }
        }
        check.refuses("1: nothing to undo", STATE, x, x::undo);
        check.same("1: the text is empty", 0, x.clearText());
    }

    private static void addThing() {
        LentRights x = new LentRights();
        check.undoable("2: addThing(9, 0)", 0, x, () -> x.addThing(9, 0));
        check.same("2: owner", 9, x.thing(0, 0));
        check.same("2: mask", 0, x.thing(0, 1));
        check.same("2: addThing(0, 7)", 1, x.addThing(0, 7));
        check.same("2: things", 2, x.value(0));
        check.same("2: held by the owner", 7, x.held(0, 1));
        check.same("2: held by the owner in spite of the mask", 7, x.held(9, 0));
        check.same("2: held by another", 0, x.held(9, 1));
        for (int no : NO_PERSONS) {
            check.refuses("2: owner " + no, INDEX, x, () -> x.addThing(no, 0));
            check.refuses("2: owner before mask", INDEX, x, () -> x.addThing(no, 8));
        }
        check.refuses("2: mask 8", ARGUMENT, x, () -> x.addThing(0, 8));
        check.refuses("2: mask -1", ARGUMENT, x, () -> x.addThing(0, -1));
        for (int thing = 2; thing < 8; thing++) {
            check.same("2: addThing", thing, x.addThing(thing, thing));
        }
        check.refuses("2: a ninth thing", STATE, x, () -> x.addThing(0, 0));
        check.refuses("2: owner before a ninth thing", INDEX, x, () -> x.addThing(10, 0));
        check.refuses("2: mask before a ninth thing", ARGUMENT, x, () -> x.addThing(0, 8));
    }

    private static void setMask() {
        LentRights x = new LentRights();
        check.refuses("3: no thing", INDEX, x, () -> x.setMask(0, 0));
        x.addThing(0, 7);
        x.addThing(0, 7);
        x.grant(0, 1, 1, 7, 0);
        check.same("3: held", 7, x.held(1, 1));
        check.undoable("3: setMask(1, 5)", 7, x, () -> x.setMask(1, 5));
        check.same("3: held by the borrower", 5, x.held(1, 1));
        check.same("3: held by the owner", 7, x.held(0, 1));
        check.same("3: the other thing's mask", 7, x.thing(0, 1));
        check.same("3: setMask(1, 7)", 5, x.setMask(1, 7));
        check.same("3: held again", 7, x.held(1, 1));
        check.undoable("3: the same mask", 7, x, () -> x.setMask(1, 7));
        check.refuses("3: thing -1", INDEX, x, () -> x.setMask(-1, 0));
        check.refuses("3: thing 2 before mask", INDEX, x, () -> x.setMask(2, 8));
        check.refuses("3: mask 8", ARGUMENT, x, () -> x.setMask(1, 8));
        check.refuses("3: mask -1", ARGUMENT, x, () -> x.setMask(1, -1));
    }

    private static void setBase() {
        LentRights x = new LentRights();
        check.undoable("4: setBase(9, 0)", 60, x, () -> x.setBase(9, 0));
        check.same("4: setBase(9, 100)", 0, x.setBase(9, 100));
        check.same("4: base", 100, x.person(9, 1));
        check.same("4: mood", 60, x.person(9, 0));
        check.same("4: another's base", 60, x.person(8, 1));
        check.undoable("4: the same base", 100, x, () -> x.setBase(9, 100));
        for (int no : NO_PERSONS) {
            check.refuses("4: person " + no, INDEX, x, () -> x.setBase(no, 101));
        }
        check.refuses("4: base 101", ARGUMENT, x, () -> x.setBase(0, 101));
        check.refuses("4: base -1", ARGUMENT, x, () -> x.setBase(0, -1));
    }

    private static void give() {
        LentRights x = new LentRights();
        check.refuses("5: no thing", INDEX, x, () -> x.give(0, 0));
        x.addThing(0, 7);
        x.grant(0, 1, 0, 5, 0);
        x.grant(1, 2, 0, 1, 0);
        check.undoable("5: give(0, 2)", 0, x, () -> x.give(0, 2));
        check.same("5: the new owner", 2, x.thing(0, 0));
        check.same("5: grants stay", 2, x.value(1));
        check.same("5: the old owner holds nothing", 0, x.held(0, 0));
        check.same("5: nor does its borrower", 0, x.held(1, 0));
        check.same("5: the new owner holds all", 7, x.held(2, 0));
        check.same("5: give back", 2, x.give(0, 0));
        check.same("5: the grants pass on again", 1, x.held(2, 0));
        check.undoable("5: the same owner", 0, x, () -> x.give(0, 0));
        for (int no : NO_PERSONS) {
            check.refuses("5: owner " + no, INDEX, x, () -> x.give(0, no));
        }
        check.refuses("5: thing -1", INDEX, x, () -> x.give(-1, 0));
        check.refuses("5: thing 1", INDEX, x, () -> x.give(1, 0));
    }

    private static void grant() {
        LentRights x = new LentRights();
        x.addThing(0, 7);
        check.undoable("6: grant(0, 1, 0, 5, 60)", 0, x, () -> x.grant(0, 1, 0, 5, 60));
        check.same("6: grant(1, 2, 0, 4, 0)", 1, x.grant(1, 2, 0, 4, 0));
        check.same("6: held by 1", 5, x.held(1, 0));
        check.same("6: held by 2", 4, x.held(2, 0));
        check.same("6: grants given so far", 2, x.value(2));
        check.same("6: revoke(1)", 0, x.revoke(1));
        check.same("6: a number is not used again", 2, x.grant(1, 2, 0, 1, 0));
        check.same("6: undo()", 3, x.undo());
        check.same("6: but behind undo()", 2, x.grant(1, 2, 0, 1, 0));
        check.same("6: to the owner", 3, x.grant(1, 0, 0, 1, 0));
        check.same("6: the same once more", 4, x.grant(1, 0, 0, 1, 0));
    }

    private static void grantIsRefused() {
        LentRights x = new LentRights();
        x.addThing(0, 7);
        x.grant(0, 1, 0, 5, 0);
        x.grant(0, 2, 0, 3, 0);
        for (int no : NO_PERSONS) {
            check.refuses("6: lender " + no, INDEX, x, () -> x.grant(no, 1, 0, 1, 0));
            check.refuses("6: borrower " + no, INDEX, x, () -> x.grant(0, no, 0, 1, 0));
            check.refuses("6: both " + no, INDEX, x, () -> x.grant(no, no, 0, 0, 101));
        }
        check.refuses("6: thing -1", INDEX, x, () -> x.grant(0, 1, -1, 1, 0));
        check.refuses("6: thing 1 before rights", INDEX, x, () -> x.grant(0, 1, 1, 8, 0));
        check.refuses("6: rights 0", ARGUMENT, x, () -> x.grant(0, 1, 0, 0, 0));
        check.refuses("6: rights 8", ARGUMENT, x, () -> x.grant(0, 1, 0, 8, 0));
        check.refuses("6: threshold -1", ARGUMENT, x, () -> x.grant(0, 1, 0, 1, -1));
        check.refuses("6: threshold 101", ARGUMENT, x, () -> x.grant(0, 1, 0, 1, 101));
        check.refuses("6: to oneself", ARGUMENT, x, () -> x.grant(0, 0, 0, 1, 0));
        check.refuses("6: to oneself before the rights held", ARGUMENT, x, () -> x.grant(3, 3, 0, 1, 0));
        check.refuses("6: holds nothing", STATE, x, () -> x.grant(3, 0, 0, 1, 0));
        check.refuses("6: no right to lend", STATE, x, () -> x.grant(2, 3, 0, 1, 0));
        check.refuses("6: not all these rights", STATE, x, () -> x.grant(1, 3, 0, 3, 0));
        check.refuses("6: mood below the threshold", STATE, x, () -> x.grant(0, 1, 0, 1, 61));
        check.same("6: mood at the threshold", 2, x.grant(0, 1, 0, 1, 60));
        x.setMask(0, 0);
        check.same("6: the mask does not bind the owner", 3, x.grant(0, 1, 0, 7, 0));
        check.refuses("6: the mask takes the right to lend", STATE, x, () -> x.grant(1, 3, 0, 1, 0));
    }

    private static void grantAtTheLimit() {
        LentRights x = new LentRights();
        x.addThing(0, 7);
        for (int number = 0; number < 40; number++) {
            check.same("6: up to 40 grants", number, x.grant(0, 1 + number % 9, 0, 7, 0));
        }
        check.refuses("6: a 41st grant", STATE, x, () -> x.grant(0, 1, 0, 7, 0));
        check.same("6: gainBy at the limit", -1, x.gainBy(0, 1, 0, 7, 0));
        check.refuses("6: rights before a 41st grant", ARGUMENT, x, () -> x.grant(0, 1, 0, 0, 0));
        check.same("6: revoke(20)", 0, x.revoke(20));
        check.same("6: room for one", 40, x.grant(0, 1, 0, 7, 0));
        check.same("6: living grants", 40, x.value(1));
        check.refuses("6: and for no other", STATE, x, () -> x.grant(0, 1, 0, 7, 0));
    }

    private static void revoke() {
        LentRights x = new LentRights();
        check.refuses("7: no grants", ELEMENT, x, () -> x.revoke(0));
        x.addThing(0, 7);
        x.grant(0, 1, 0, 5, 0);
        x.grant(1, 2, 0, 5, 0);
        x.grant(2, 3, 0, 1, 0);
        x.grant(2, 1, 0, 5, 0);
        x.grant(0, 4, 0, 2, 0);
        check.same("7: sees without the right", 4, x.value(6));
        check.undoable("7: nobody saw by it", 0, x, () -> x.revoke(4));
        check.undoable("7: a circle feeds nothing", 3, x, () -> x.revoke(0));
        check.same("7: the grants behind it live on", 3, x.value(1));
        check.same("7: and pass on nothing", 3, x.value(7));
        check.same("7: revoked so far", 2, x.value(4));
        check.same("7: it is no death", 0, x.value(3));
        check.same("7: and not in the log", 0, x.value(8));
        check.refuses("7: revoked before", ELEMENT, x, () -> x.revoke(0));
        check.refuses("7: not given yet", ELEMENT, x, () -> x.revoke(5));
        check.refuses("7: number -1", ELEMENT, x, () -> x.revoke(-1));
        check.same("7: one of a pair of grants", 0, twoGrants().revoke(0));
    }

    private static LentRights twoGrants() {
        LentRights x = new LentRights();
        x.addThing(0, 7);
        x.grant(0, 1, 0, 1, 0);
        x.grant(0, 1, 0, 1, 0);
        return x;
    }

    private static void cheer() {
        LentRights x = new LentRights();
        x.addThing(0, 7);
        x.grant(0, 1, 0, 7, 60);
        x.grant(0, 2, 0, 7, 59);
        x.grant(1, 2, 0, 7, 60);
        check.undoable("8: cheer(0, 0)", 60, x, () -> x.cheer(0, 0));
        check.same("8: at the threshold a grant lives", 3, x.value(1));
        check.undoable("8: cheer(0, -1)", 59, x, () -> x.cheer(0, -1));
        check.same("8: below it it dies", 2, x.value(1));
        check.same("8: another's base stays", 60, x.person(0, 1));
        check.same("8: died so far", 1, x.value(3));
        check.same("8: the log", 0, x.entry(0, 0));
        check.same("8: cheer(0, 100)", 100, x.cheer(0, 100));
        check.same("8: it does not come back", 2, x.value(1));
        check.same("8: cheer(0, -100)", 0, x.cheer(0, -100));
        check.same("8: cheer(0, -1)", 0, x.cheer(0, -1));
        check.same("8: a grant of another lives", 1, x.value(1));
        check.same("8: held by nobody", 0, x.held(2, 0));
        for (int no : NO_PERSONS) {
            check.refuses("8: person " + no, INDEX, x, () -> x.cheer(no, 101));
        }
        check.refuses("8: amount 101", ARGUMENT, x, () -> x.cheer(0, 101));
        check.refuses("8: amount -101", ARGUMENT, x, () -> x.cheer(0, -101));
        check.refuses("8: greatest amount", ARGUMENT, x, () -> x.cheer(0, Integer.MAX_VALUE));
    }

    private static void pass() {
        LentRights x = new LentRights();
        x.addThing(0, 7);
        x.setBase(0, 50);
        x.setBase(1, 63);
        x.grant(0, 1, 0, 7, 57);
        x.grant(0, 2, 0, 7, 50);
        check.undoable("9: pass(3)", 0, x, () -> x.pass(3));
        check.same("9: the time", 3, x.value(5));
        check.same("9: a mood falls", 57, x.person(0, 0));
        check.same("9: a mood rises", 63, x.person(1, 0));
        check.same("9: a mood stays", 60, x.person(2, 0));
        check.same("9: pass(1)", 1, x.pass(1));
        check.same("9: died at", 4, x.entry(0, 1));
        check.same("9: not held any more", 0, x.held(1, 0));
        check.same("9: pass(100)", 0, x.pass(100));
        check.same("9: a mood ends at its base", 50, x.person(0, 0));
        check.same("9: also from below", 63, x.person(1, 0));
        check.same("9: the time", 104, x.value(5));
        check.undoable("9: nothing happens but time", 0, x, () -> x.pass(1));
        for (int no : new int[] {0, -1, 101, Integer.MIN_VALUE, Integer.MAX_VALUE}) {
            check.refuses("9: ticks " + no, ARGUMENT, x, () -> x.pass(no));
        }
    }

    private static void passKillsInOrder() {
        LentRights x = new LentRights();
        x.addThing(0, 7);
        x.grant(0, 1, 0, 7, 58);
        x.grant(1, 2, 0, 7, 60);
        x.grant(0, 3, 0, 7, 60);
        x.grant(0, 4, 0, 7, 59);
        x.setBase(0, 0);
        x.setBase(1, 0);
        check.same("9: pass(2)", 3, x.pass(2));
        int[][] due = {{3, 2, 0}, {2, 1, 0}, {1, 1, 1}};
        for (int index = 0; index < due.length; index++) {
            for (int what = 0; what < 3; what++) {
                check.same("9: entry(" + index + ", " + what + ")", due[index][what], x.entry(index, what));
            }
        }
        check.same("9: alive yet", 1, x.value(1));
        check.same("9: pass(1)", 1, x.pass(1));
    }

    private static void passAtTheEndOfTime() {
        LentRights x = new LentRights();
        // 100 ticks a call would take more calls than the document allows; a text has room for 25 orders.
        String orders = "t50;t50;t50;t50;t50;t50;t50;t50;t50;t50;t50;t50;t50;t50;t50;t50;t50;t50;t50;t50;t50;t50;t50;t50;t50;";
        Check.text(x, orders);
        for (int call = 0; call < 79; call++) {
            check.same("27: 25 orders", 25, x.carryOut());
        }
        for (int call = 0; call < 12; call++) {
            x.pass(100);
        }
        check.same("9: the time", 99950, x.value(5));
        check.refuses("9: beyond the end", STATE, x, () -> x.pass(51));
        check.refuses("9: the range comes first", ARGUMENT, x, () -> x.pass(101));
        check.same("27: one order has room", 1, x.carryOut());
        check.same("9: the last tick", 100000, x.value(5));
        check.same("27: no order has room", 0, x.carryOut());
        check.refuses("9: no tick more", STATE, x, () -> x.pass(1));
        check.same("21: seenIn beyond the end", 0, x.seenIn(100));
    }
}
