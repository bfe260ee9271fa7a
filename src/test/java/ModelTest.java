import java.util.Random;

/** Makes the same random calls on the program and on the model, and compares every answer. */
public final class ModelTest {
    private static final int RUNS = 700;
    private static final int CALLS = 512;

    private static final Check check = new Check();

    private interface Call {
        double answer();
    }

    private final Random random;
    private final LentRights x = new LentRights();
    private final Model model = new Model();
    private String waiting = "";
    private boolean fewThings;
    private int calls;

    private ModelTest(long seed) {
        random = new Random(seed);
    }

    public static void main(String[] args) {
        for (int run = 0; run < RUNS; run++) {
            new ModelTest(run).run(run);
        }
        check.finish();
    }

    private void run(int run) {
        // Runs with few things have more grants for each of them, so longer chains.
        int firstThings = new int[] {0, 1, 1, 2, 4, 8}[run % 6];
        fewThings = firstThings == 1 || firstThings == 2;
        // A step makes at most a text's calls: 100 times append() and carryOut(), and then digest().
        for (int step = 0; calls + 102 <= CALLS; step++) {
            String told = step < firstThings ? addThing() : call();
            if (told == null) {
                return;
            }
            if (step % 16 == 0 && digest() != model.digest()) {
                check.complain("run " + run + ", step " + step + ", " + told + ": another digest");
                return;
            }
        }
        check.sameLong("run " + run + ", the last digest", model.digest(), digest());
    }

    private long digest() {
        calls++;
        return x.digest();
    }

    /** A number in a range, or sometimes a bit outside of it. */
    private int some(int least, int most) {
        switch (random.nextInt(40)) {
            case 0:
                return least - 1;
            case 1:
                return most + 1;
            case 2:
                return random.nextInt();
            default:
                return least + random.nextInt(most - least + 1);
        }
    }

    private int somePerson() {
        return some(0, 9);
    }

    private int someThing() {
        int things = model.value(0);
        return some(0, things > 0 && random.nextInt(20) != 0 ? things - 1 : 7);
    }

    private int someMask() {
        return random.nextInt(3) == 0 ? some(0, 7) : 7;
    }

    private int someRights() {
        return random.nextInt(2) == 0 ? some(1, 7) : 5;
    }

    private int someThreshold() {
        return random.nextInt(5) == 0 ? some(0, 100) : some(0, 40);
    }

    /** Mostly the number of a living grant. */
    private int someNumber() {
        int given = model.value(2);
        int number = 0;
        for (int tries = 0; tries < 20; tries++) {
            number = some(0, given);
            if (!outcome(numberOf(number)).contains("Exception")) {
                return number;
            }
        }
        return number;
    }

    private Call numberOf(int number) {
        return () -> model.grantOf(number, 0);
    }

    /** Mostly a person who can lend the thing. */
    private int someLender(int thing) {
        int things = model.value(0);
        int lenders = thing >= 0 && thing < things ? model.thing(thing, 5) : 0;
        int person = somePerson();
        for (int tries = 0; tries < 40 && random.nextInt(30) != 0; tries++) {
            if (person >= 0 && person <= 9 && (lenders >> person & 1) != 0) {
                return person;
            }
            person = somePerson();
        }
        return person;
    }

    /** Mostly rights that the person holds. */
    private int someRightsOf(int person, int thing) {
        int rights = someRights();
        boolean known = person >= 0 && person <= 9 && thing >= 0 && thing < model.value(0);
        int held = known && random.nextInt(10) != 0 ? model.held(person, thing) : 0;
        return held != 0 && (rights & held) != 0 && rights >= 0 && rights <= 7 ? rights & held : rights;
    }

    private String addThing() {
        int owner = somePerson();
        int mask = someMask();
        return same("addThing " + owner + " " + mask, () -> x.addThing(owner, mask), () -> model.addThing(owner, mask));
    }

    private String call() {
        if (!waiting.isEmpty()) {
            String told = null;
            for (char value : waiting.toCharArray()) {
                told = same("append " + (int) value, () -> x.append(value), () -> model.append(value));
            }
            waiting = "";
            return told == null ? null : same("carryOut", x::carryOut, model::carryOut);
        }
        int kind = random.nextInt(100);
        if (kind < 25) {
            return grant();
        }
        return kind < 48 ? change(kind) : kind < 55 ? text() : ask(random.nextInt(40));
    }

    private String grant() {
        int thing = someThing();
        int lender = someLender(thing);
        int borrower = somePerson();
        int rights = someRightsOf(lender, thing);
        int threshold = someThreshold();
        String told = lender + " " + borrower + " " + thing + " " + rights + " " + threshold;
        if (random.nextInt(4) == 0) {
            return same("gainBy " + told, () -> x.gainBy(lender, borrower, thing, rights, threshold),
                    () -> model.gainBy(lender, borrower, thing, rights, threshold));
        }
        return same("grant " + told, () -> x.grant(lender, borrower, thing, rights, threshold),
                () -> model.grant(lender, borrower, thing, rights, threshold));
    }

    private String change(int kind) {
        int person = somePerson();
        int thing = someThing();
        if (kind < 26 && !fewThings) {
            return addThing();
        } else if (kind < 28) {
            int mask = someMask();
            return same("setMask " + thing + " " + mask, () -> x.setMask(thing, mask), () -> model.setMask(thing, mask));
        } else if (kind < 32) {
            int base = random.nextInt(3) == 0 ? some(0, 100) : some(40, 80);
            return same("setBase " + person + " " + base, () -> x.setBase(person, base),
                    () -> model.setBase(person, base));
        } else if (kind < 34) {
            return same("give " + thing + " " + person, () -> x.give(thing, person), () -> model.give(thing, person));
        } else if (kind < 38) {
            int number = someNumber();
            return same("revoke " + number, () -> x.revoke(number), () -> model.revoke(number));
        } else if (kind < 43) {
            int amount = random.nextInt(6) == 0 ? some(-100, 100) : some(-12, 20);
            return same("cheer " + person + " " + amount, () -> x.cheer(person, amount),
                    () -> model.cheer(person, amount));
        } else if (kind < 46) {
            int ticks = random.nextInt(6) == 0 ? some(1, 100) : some(1, 5);
            return same("pass " + ticks, () -> x.pass(ticks), () -> model.pass(ticks));
        }
        return same("undo", x::undo, model::undo);
    }

    private String text() {
        switch (random.nextInt(8)) {
            case 0:
                return same("clearText", x::clearText, model::clearText);
            case 1:
            case 2:
                return same("carryOut", x::carryOut, model::carryOut);
            default:
                StringBuilder orders = new StringBuilder();
                int count = random.nextInt(9);
                for (int order = 0; order < count; order++) {
                    orders.append(someOrder());
                }
                spoil(orders);
                waiting = orders.toString();
                return same("clearText", x::clearText, model::clearText);
        }
    }

    private String someOrder() {
        switch (random.nextInt(6)) {
            case 0:
                return "v" + zeros() + Math.floorMod(someNumber(), 1000) + ";";
            case 1:
                return "c" + random.nextInt(10) + (random.nextInt(3) == 0 ? "-" : "+") + zeros() + someEdge(100) + ";";
            case 2:
                return "t" + zeros() + someEdge(50) + ";";
            default:
                int thing = random.nextInt(Math.max(1, model.value(0)));
                int lender = Math.floorMod(someLender(thing), 10);
                int rights = 1 + Math.floorMod(someRightsOf(lender, thing) - 1, 7);
                int threshold = random.nextInt(5) == 0 ? someEdge(100) : random.nextInt(50);
                return "g" + lender + random.nextInt(10) + thing + rights + "," + zeros() + threshold + ";";
        }
    }

    private String zeros() {
        return random.nextInt(8) == 0 ? "0" : "";
    }

    private int someEdge(int most) {
        int[] edges = {0, 1, 9, 10, most, most, most + 1, 99};
        return random.nextInt(4) == 0 ? edges[random.nextInt(edges.length)] : random.nextInt(most + 1);
    }

    private void spoil(StringBuilder orders) {
        String bytes = "gvct0123456789,;+- x";
        if (orders.length() == 0 || random.nextInt(3) != 0) {
            return;
        }
        int place = random.nextInt(orders.length());
        switch (random.nextInt(4)) {
            case 0:
                orders.setLength(place);
                break;
            case 1:
                orders.deleteCharAt(place);
                break;
            case 2:
                orders.insert(place, bytes.charAt(random.nextInt(bytes.length())));
                break;
            default:
                orders.setCharAt(place, bytes.charAt(random.nextInt(bytes.length())));
                break;
        }
    }

    private String ask(int kind) {
        int person = somePerson();
        int thing = someThing();
        int what = some(0, 8);
        if (kind < 5) {
            return same("held " + person + " " + thing, () -> x.held(person, thing), () -> model.held(person, thing));
        } else if (kind < 8) {
            return same("person " + person + " " + what, () -> x.person(person, what),
                    () -> model.person(person, what));
        } else if (kind < 11) {
            return same("thing " + thing + " " + what, () -> x.thing(thing, what), () -> model.thing(thing, what));
        } else if (kind < 14) {
            int number = someNumber();
            return same("grantOf " + number + " " + what, () -> x.grantOf(number, what),
                    () -> model.grantOf(number, what));
        } else if (kind < 17) {
            return same("chain " + person + " " + thing, () -> x.chain(person, thing), () -> model.chain(person, thing));
        } else if (kind < 21) {
            int place = random.nextInt(3) == 0 ? some(0, 9) : some(0, 1);
            return same("link " + person + " " + thing + " " + place, () -> x.link(person, thing, place),
                    () -> model.link(person, thing, place));
        } else if (kind < 25) {
            int right = random.nextInt(8) == 0 ? some(0, 7) : 1 << random.nextInt(3);
            return same("why " + person + " " + thing + " " + right, () -> x.why(person, thing, right),
                    () -> model.why(person, thing, right));
        }
        return askMore(kind, person, what);
    }

    private String askMore(int kind, int person, int what) {
        if (kind < 27) {
            return same("value " + what, () -> x.value(what), () -> model.value(what));
        } else if (kind < 30) {
            int index = some(0, Math.max(0, model.value(8) - 1));
            int part = some(0, 2);
            return same("entry " + index + " " + part, () -> x.entry(index, part), () -> model.entry(index, part));
        } else if (kind < 32) {
            return same("lostBy " + person, () -> x.lostBy(person), () -> model.lostBy(person));
        } else if (kind < 33) {
            return same("mostNeeded", x::mostNeeded, model::mostNeeded);
        } else if (kind < 35) {
            int ticks = some(0, 100);
            return same("seenIn " + ticks, () -> x.seenIn(ticks), () -> model.seenIn(ticks));
        } else if (kind < 37) {
            return same("patience " + person, () -> x.patience(person), () -> model.patience(person));
        }
        return same("meanChain", x::meanChain, model::meanChain);
    }

    /** Returns what was compared, or null if the answers differ: then the rest of the run tells nothing. */
    private String same(String told, Call of, Call due) {
        calls++;
        String got = outcome(of);
        String want = outcome(due);
        check.holds(told + " answered " + got + ", due is " + want + ": that", got.equals(want));
        return got.equals(want) ? told : null;
    }

    private static String outcome(Call call) {
        try {
            return String.valueOf(call.answer());
        } catch (RuntimeException e) {
            return e.getClass().getName();
        }
    }
}
