/** Counts the answers that are not as due, and ends the test with exit code 1 if there was one. */
final class Check {
    interface Call {
        double answer();
    }

    private int made;
    private int wrong;

    void same(String what, double due, double got) {
        made++;
        if (due != got) {
            complain(what + " answered " + got + ", due is " + due);
        }
    }

    void sameLong(String what, long due, long got) {
        made++;
        if (due != got) {
            complain(what + " answered " + got + ", due is " + due);
        }
    }

    void holds(String what, boolean answer) {
        made++;
        if (!answer) {
            complain(what + " does not hold");
        }
    }

    /** The call throws just this exception, no subclass of it, and leaves the object as it was. */
    void refuses(String what, Class<? extends RuntimeException> due, LentRights x, Call call) {
        long before = x.digest();
        Class<?> got = null;
        try {
            call.answer();
        } catch (RuntimeException e) {
            got = e.getClass();
        }
        made++;
        if (got != due) {
            complain(what + " threw " + got + ", due is " + due);
        }
        sameLong(what + " and the digest then", before, x.digest());
    }

    /** The call saves just one state, and undo() brings back what was before it; then the call is made again. */
    void undoable(String what, double due, LentRights x, Call call) {
        long before = x.digest();
        same(what, due, call.answer());
        int left = x.undo();
        // The digest ends with the count of saved states; the oldest of four is dropped by the call.
        boolean isBack = x.digest() == before || left == 3 && x.digest() == before - 1;
        holds(what + ", then undo(): all as before", isBack);
        same(what + ", again", due, call.answer());
    }

    void complain(String what) {
        wrong++;
        if (wrong <= 50) {
            System.out.println(what);
        }
    }

    void finish() {
        System.out.println(made + " checks, " + wrong + " wrong");
        if (wrong != 0) {
            System.exit(1);
        }
    }

    static LentRights text(LentRights x, String orders) {
        x.clearText();
        for (int i = 0; i < orders.length(); i++) {
            x.append(orders.charAt(i));
        }
        return x;
    }
}
