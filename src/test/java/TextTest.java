/** Promises 25 to 27: the text and its orders. */
public final class TextTest {
    private static final Class<IllegalArgumentException> ARGUMENT = IllegalArgumentException.class;
    private static final Class<IllegalStateException> STATE = IllegalStateException.class;

    private static final Check check = new Check();

    public static void main(String[] args) {
        append();
        clearText();
        carryOut();
        ordersStop();
        carryOutIsOneState();
        syntaxOfGrants();
        syntaxOfTheRest();
        rangeOfNumbers();
        everyByte();
        check.finish();
    }

    private static void append() {
        LentRights x = new LentRights();
        for (int no : new int[] {-1, 128, Integer.MIN_VALUE, Integer.MAX_VALUE}) {
            check.refuses("25: byte " + no, ARGUMENT, x, () -> x.append(no));
        }
        for (int length = 1; length <= 100; length++) {
            check.same("25: append", length, x.append(length % 2 == 0 ? 0 : 127));
        }
        check.refuses("25: a 101st byte", STATE, x, () -> x.append(0));
        check.refuses("25: the range comes first", ARGUMENT, x, () -> x.append(128));
        check.refuses("25: it is not undoable", STATE, x, x::undo);
        check.same("26: clearText", 100, x.clearText());
        check.same("25: append again", 1, x.append(';'));
    }

    private static void clearText() {
        LentRights x = new LentRights();
        check.same("26: of no text", 0, x.clearText());
        Check.text(x, "t1;");
        check.same("26: of three bytes", 3, x.clearText());
        check.same("26: it is empty then", 0, x.clearText());
        check.refuses("26: it is not undoable", STATE, x, x::undo);
    }

    private static LentRights house() {
        LentRights x = new LentRights();
        x.addThing(0, 7);
        x.addThing(1, 7);
        return x;
    }

    private static void carryOut() {
        LentRights x = house();
        check.same("27: no orders", 0, x.carryOut());
        Check.text(x, "g0107,007;g1206,60;c2+7;c0-55;t3;v1;");
        check.same("27: six orders", 6, x.carryOut());
        check.same("27: given", 2, x.value(2));
        check.same("27: the lender", 0, x.entry(0, 2));
        check.same("27: died by the mood", 1, x.value(3));
        check.same("27: revoked", 1, x.value(4));
        check.same("27: a mood", 64, x.person(2, 0));
        check.same("27: another mood", 8, x.person(0, 0));
        check.same("27: the time", 3, x.value(5));
        check.same("27: the text stays", 36, x.clearText());

        LentRights y = house();
        Check.text(y, "g0907,001;g9104,0;g1203,60;");
        check.same("27: grants that use what was granted", 2, y.carryOut());
        int[][] due = {{0, 9, 0, 7, 1, 7}, {9, 1, 0, 4, 0, 4}};
        for (int number = 0; number < 2; number++) {
            for (int what = 0; what < 6; what++) {
                check.same("27: grantOf", due[number][what], y.grantOf(number, what));
            }
        }
        check.same("27: 33 orders", 33, Check.text(y, "t1;t1;t1;t1;t1;t1;t1;t1;t1;t1;t1;t1;t1;t1;t1;t1;t1;"
                + "t1;t1;t1;t1;t1;t1;t1;t1;t1;t1;t1;t1;t1;t1;t1;t1;").carryOut());
        check.same("27: 33 ticks", 33, y.value(5));
    }

    /** The first order that would throw ends it; the ones before it stand. */
    private static void ordersStop() {
        stops("v0;", 0);
        stops("g0027,0;", 0);    // no thing 2
        stops("g0007,0;", 0);    // to oneself
        stops("g2007,0;", 0);    // holds nothing
        stops("g0107,61;", 0);   // mood too low
        stops("t1;g0107,60;v0;v0;t1;", 3);
        stops("t1;t1;v999;t1;", 2);
        LentRights x = house();
        for (int number = 0; number < 39; number++) {
            x.grant(0, 1, 0, 1, 0);
        }
        check.same("27: a 41st grant", 2, Check.text(x, "g0101,0;t1;g0101,0;t1;").carryOut());
        check.same("27: living grants", 40, x.value(1));
    }

    private static void stops(String orders, int due) {
        LentRights x = Check.text(house(), orders);
        check.same("27: carried out of " + orders, due, x.carryOut());
        check.same("27: the text stays", orders.length(), x.clearText());
        check.same("27: saved, so that three are left", 2, x.undo());
        check.sameLong("27: all is as before", house().digest(), x.digest());
    }

    private static void carryOutIsOneState() {
        LentRights x = house();
        Check.text(x, "g0107,0;g0107,0;t5;c0+1;");
        check.undoable("27: four orders", 4, x, x::carryOut);
        Check.text(x, "");
        check.undoable("27: no orders", 0, x, x::carryOut);
        Check.text(x, "v77;");
        check.undoable("27: none carried out", 0, x, x::carryOut);
        LentRights y = new LentRights();
        check.same("27: a syntax error", -11, Check.text(y, "t").carryOut());
        check.refuses("27: saves nothing", STATE, y, y::undo);
    }

    private static void fault(String text, int position) {
        LentRights x = Check.text(house(), text);
        long before = x.digest();
        check.same("27: carryOut() of " + text, -10 - position, x.carryOut());
        check.sameLong("27: " + text + " changes nothing", before, x.digest());
    }

    private static void syntaxOfGrants() {
        fault("g", 1);
        fault("g0", 2);
        fault("gx", 1);
        fault("g0x", 2);
        fault("g018", 3);
        fault("g0180,0;", 3);
        fault("g019", 3);
        fault("g01", 3);
        fault("g010", 4);
        fault("g0100", 4);
        fault("g0100,0;", 4);
        fault("g0108", 4);
        fault("g0109,0;", 4);
        fault("g0101", 5);
        fault("g01010", 5);
        fault("g0101;", 5);
        fault("g0101,", 6);
        fault("g0101,;", 6);
        fault("g0101,x", 6);
        fault("g0101,-1;", 6);
        fault("g0101,1", 7);
        fault("g0101,1x", 7);
        fault("g0101,100", 9);
        fault("g0101,0000;", 9);
        fault("g0101,1000;", 9);
        fault("g0101,100,", 9);
        fault("g0101,0;g", 9);
        fault("G0101,0;", 0);
        fault("g-101,0;", 1);
    }

    private static void syntaxOfTheRest() {
        fault("v", 1);
        fault("v;", 1);
        fault("v1", 2);
        fault("v1,", 2);
        fault("v999", 4);
        fault("v9999", 4);
        fault("v0000;", 4);
        fault("c", 1);
        fault("c+", 1);
        fault("c0", 2);
        fault("c00", 2);
        fault("c0;", 2);
        fault("c0*1;", 2);
        fault("c0+", 3);
        fault("c0-", 3);
        fault("c0+;", 3);
        fault("c0+-1;", 3);
        fault("c0-100", 6);
        fault("c0-1000;", 6);
        fault("t", 1);
        fault("t;", 1);
        fault("t+1;", 1);
        fault("t5", 2);
        fault("t50", 3);
        fault("t050;", 3);
        fault("t000;", 3);
        fault(";", 0);
        fault(" ", 0);
        fault("t1; t1;", 3);
        fault("t1 ;", 2);
        fault("t1;;", 3);
        fault("x", 0);
        fault("t1;x", 3);
        fault("1", 0);
    }

    /** A number out of its range is found when no digit follows, and its place is that of its first digit. */
    private static void rangeOfNumbers() {
        fault("g0101,101", 6);
        fault("g0101,101;", 6);
        fault("g0101,101x", 6);
        fault("g0101,999,", 6);
        fault("g0101,1010", 9);
        fault("c0+101", 3);
        fault("c0-101;", 3);
        fault("c9-999g", 3);
        fault("t0", 1);
        fault("t0;", 1);
        fault("t0x", 1);
        fault("t00", 1);
        fault("t00;", 1);
        fault("t51", 1);
        fault("t51;", 1);
        fault("t99t", 1);
        fault("t510", 3);
        fault("t1;t51;x", 4);
        // The edges that are in range.
        fault("g9877,100;c9+100;c0-0;c0+000;t50;t01;v999;v0;v000;x", 50);
    }

    private static void everyByte() {
        for (int value = 0; value < 128; value++) {
            if ("gvct".indexOf(value) < 0) {
                fault("t1;" + (char) value, 3);
            }
            if (value < '0' || value > '9') {
                fault("v" + (char) value, 1);
                fault("t" + (char) value, 1);
                fault("c" + (char) value, 1);
                fault("t51" + (char) value, 1);
                fault("g010" + (char) value, 4);
                if (value != ';') {
                    fault("v12" + (char) value, 3);
                }
            }
            if (value != '+' && value != '-') {
                fault("c0" + (char) value, 2);
            }
            if (value != ',') {
                fault("g0101" + (char) value, 5);
            }
        }
    }
}
