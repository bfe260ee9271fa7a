/** Objects that tests begin with. */
final class Made {
    private Made() {
    }

    /** One thing, of person 0, that all can be lent; one state is saved. */
    static LentRights one() {
        LentRights x = new LentRights();
        x.addThing(0, 7);
        return x;
    }

    /** Person 0's thing 0 goes on to 1, and from there to 2; both would be missed. */
    static LentRights line() {
        LentRights x = one();
        x.grant(0, 1, 0, 5, 50);
        x.grant(1, 2, 0, 1, 60);
        return x;
    }

    /** Something of everything: grants that live, died and were revoked, a log, four saved states and a text. */
    static LentRights full() {
        LentRights x = line();
        x.addThing(9, 5);
        x.grant(9, 3, 1, 7, 0);   // 2
        x.grant(3, 0, 1, 1, 60);  // 3
        x.grant(0, 4, 0, 2, 60);  // 4: dies
        x.grant(0, 5, 0, 3, 10);  // 5: is revoked
        x.cheer(0, -1);
        x.setBase(1, 0);
        x.revoke(5);
        Check.text(x, "c1-1;t3;");
        return x;
    }

    /** As many grants as can live, all of person 0 to person 1. */
    static LentRights crowded() {
        LentRights x = one();
        for (int number = 0; number < 40; number++) {
            x.grant(0, 1, 0, 7, 60);
        }
        return x;
    }

    /** Eight things, the thing t owned by the person t. */
    static LentRights furnished() {
        LentRights x = new LentRights();
        for (int thing = 0; thing < 8; thing++) {
            x.addThing(thing, 7);
        }
        return x;
    }

    /** Fifty ticks before the end of time; a text lets more ticks pass by one call than pass() does. */
    static LentRights late() {
        LentRights x = one();
        Check.text(x, "t50;".repeat(25));
        for (int call = 0; call < 79; call++) {
            x.carryOut();
        }
        for (int call = 0; call < 12; call++) {
            x.pass(100);
        }
        Check.text(x, "t50;t1;");
        return x;
    }

    static LentRights written(String orders) {
        return Check.text(full(), orders);
    }
}
