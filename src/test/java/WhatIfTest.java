/** Promises 19 to 24: what if. */
public final class WhatIfTest {
    private static final Class<IndexOutOfBoundsException> INDEX = IndexOutOfBoundsException.class;
    private static final Class<IllegalArgumentException> ARGUMENT = IllegalArgumentException.class;
    private static final int[] NO_PERSONS = {-1, 10, Integer.MIN_VALUE, Integer.MAX_VALUE};

    private static final Check check = new Check();

    public static void main(String[] args) {
        lostBy();
        mostNeeded();
        seenIn();
        gainBy();
        gainByIsRefused();
        patience();
        meanChain();
        check.finish();
    }

    private static LentRights line() {
        LentRights x = new LentRights();
        x.addThing(0, 7);
        x.addThing(1, 7);
        x.grant(0, 1, 0, 5, 0);   // 0: does not die by a mood
        x.grant(1, 2, 0, 5, 1);   // 1
        x.grant(2, 3, 0, 5, 60);  // 2
        x.grant(1, 2, 1, 1, 30);  // 3
        x.grant(0, 3, 0, 2, 50);  // 4: nothing to see by it
        return x;
    }

    private static void lostBy() {
        LentRights x = line();
        int[] due = {0, 3, 1, 0, 0, 0, 0, 0, 0, 0};
        long before = x.digest();
        for (int person = 0; person < 10; person++) {
            check.same("19: lostBy(" + person + ")", due[person], x.lostBy(person));
        }
        check.sameLong("19: nothing changes", before, x.digest());
        check.same("19: the mood is as before", 60, x.person(1, 0));
        x.grant(0, 3, 0, 1, 20);
        check.same("19: seen by another way", 2, x.lostBy(1));
        check.same("19: and by the first", 0, x.lostBy(2));
        for (int no : NO_PERSONS) {
            check.refuses("19: person " + no, INDEX, x, () -> x.lostBy(no));
        }
    }

    private static void mostNeeded() {
        LentRights x = new LentRights();
        check.same("20: nothing to lose", -1, x.mostNeeded());
        x.addThing(0, 7);
        x.addThing(5, 7);
        check.same("20: only owners", -1, x.mostNeeded());
        x.grant(5, 6, 1, 1, 1);
        check.same("20: one", 5, x.mostNeeded());
        x.grant(0, 6, 0, 1, 1);
        check.same("20: the lowest of two", 0, x.mostNeeded());
        x.grant(5, 7, 1, 1, 1);
        long before = x.digest();
        check.same("20: the one with most", 5, x.mostNeeded());
        check.sameLong("20: nothing changes", before, x.digest());
        check.same("20: of the line", 1, line().mostNeeded());
    }

    private static void seenIn() {
        LentRights x = line();
        x.setBase(2, 55);
        x.setBase(1, 20);
        long before = x.digest();
        check.same("21: now", 6, x.seenIn(0));
        check.same("21: in a tick", 5, x.seenIn(1));
        check.same("21: at a threshold", 5, x.seenIn(30));
        check.same("21: below it", 4, x.seenIn(31));
        check.same("21: in a long time", 4, x.seenIn(100));
        check.sameLong("21: nothing changes", before, x.digest());
        for (int no : new int[] {-1, 101, Integer.MIN_VALUE, Integer.MAX_VALUE}) {
            check.refuses("21: ticks " + no, ARGUMENT, x, () -> x.seenIn(no));
        }
        check.same("21: without things", 0, new LentRights().seenIn(100));
    }

    private static void gainBy() {
        LentRights x = new LentRights();
        x.addThing(0, 7);
        x.grant(0, 1, 0, 5, 0);
        x.grant(1, 2, 0, 5, 0);
        x.grant(2, 3, 0, 1, 0);
        x.revoke(0);
        long before = x.digest();
        check.same("22: three see", 3, x.gainBy(0, 1, 0, 5, 0));
        check.same("22: one sees", 1, x.gainBy(0, 1, 0, 1, 60));
        check.same("22: sight alone is not enough to go on", 1, x.gainBy(0, 3, 0, 7, 0));
        check.same("22: two see", 2, x.gainBy(0, 2, 0, 7, 0));
        check.same("22: nobody sees by it", 0, x.gainBy(0, 1, 0, 4, 0));
        check.sameLong("22: nothing changes", before, x.digest());
        check.same("22: without the rights", -1, x.gainBy(1, 4, 0, 1, 0));
        check.same("22: without the mood", -1, x.gainBy(0, 1, 0, 5, 61));
        check.same("22: grant", 3, x.grant(0, 2, 0, 3, 0));
        check.same("22: without the right to lend", -1, x.gainBy(2, 4, 0, 1, 0));
        x.setMask(0, 2);
        check.same("22: masked", 0, x.gainBy(0, 1, 0, 7, 0));
    }

    private static void gainByIsRefused() {
        LentRights x = new LentRights();
        check.refuses("22: no thing", INDEX, x, () -> x.gainBy(0, 1, 0, 1, 0));
        x.addThing(0, 7);
        for (int no : NO_PERSONS) {
            check.refuses("22: lender " + no, INDEX, x, () -> x.gainBy(no, 1, 0, 1, 0));
            check.refuses("22: borrower " + no, INDEX, x, () -> x.gainBy(0, no, 0, 1, 0));
            check.refuses("22: before the rest", INDEX, x, () -> x.gainBy(no, no, 0, 0, 101));
        }
        check.refuses("22: thing -1", INDEX, x, () -> x.gainBy(0, 1, -1, 1, 0));
        check.refuses("22: thing 1", INDEX, x, () -> x.gainBy(0, 1, 1, 1, 0));
        check.refuses("22: rights 0", ARGUMENT, x, () -> x.gainBy(0, 1, 0, 0, 0));
        check.refuses("22: rights 8", ARGUMENT, x, () -> x.gainBy(0, 1, 0, 8, 0));
        check.refuses("22: threshold -1", ARGUMENT, x, () -> x.gainBy(0, 1, 0, 1, -1));
        check.refuses("22: threshold 101", ARGUMENT, x, () -> x.gainBy(0, 1, 0, 1, 101));
        check.refuses("22: to oneself", ARGUMENT, x, () -> x.gainBy(3, 3, 0, 1, 0));
    }

    private static void patience() {
        LentRights x = line();
        check.same("23: patience(0)", 10, x.patience(0));
        check.same("23: patience(1)", 30, x.patience(1));
        check.same("23: patience(2)", 0, x.patience(2));
        check.same("23: without grants", 60, x.patience(3));
        x.cheer(3, 5);
        check.same("23: the mood", 65, x.patience(3));
        x.revoke(4);
        check.same("23: with the threshold 0", 60, x.patience(0));
        x.revoke(0);
        x.revoke(1);
        x.revoke(2);
        check.same("23: by the only grant", 30, x.patience(1));
        for (int no : NO_PERSONS) {
            check.refuses("23: person " + no, INDEX, x, () -> x.patience(no));
        }
    }

    private static void meanChain() {
        LentRights x = new LentRights();
        check.same("24: without things", 0.0, x.meanChain());
        x.addThing(0, 7);
        check.same("24: an owner alone", 0.0, x.meanChain());
        x.grant(0, 1, 0, 5, 0);
        check.same("24: a half", 0.5, x.meanChain());
        x.addThing(3, 7);
        check.same("24: a third", 1.0 / 3.0, x.meanChain());
        x.grant(1, 2, 0, 5, 0);
        x.grant(2, 4, 0, 5, 0);
        // 0 + 1 + 2 + 3 for the thing 0, and 0 for the other one.
        check.same("24: a mean", 6.0 / 5.0, x.meanChain());
        x.grant(3, 4, 1, 2, 0);
        check.same("24: who does not see does not count", 6.0 / 5.0, x.meanChain());
        x.grant(0, 4, 0, 1, 0);
        check.same("24: a shorter chain", 4.0 / 5.0, x.meanChain());
        x.setMask(0, 0);
        check.same("24: owners alone", 0.0, x.meanChain());
    }
}
