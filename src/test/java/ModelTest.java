import java.util.Random;

/** Makes the same random calls on the program and on the model, and compares every answer. */
public final class ModelTest {
    private static final int RUNS = 150;
    private static final int CALLS = 512;

    private static final Check check = new Check();

    private interface Call {
        double answer();
    }

    private final Random random;
    private final LentRights x = new LentRights();
    private final Model model = new Model();
    private String waiting = "";

    private ModelTest(long seed) {
        random = new Random(seed);
    }

    public static void main(String[] args) {
        for (int run = 0; run < RUNS; run++) {
            new ModelTest(run).run(run);
        }
        check.finish();
    }

    private void run(int run) {
        for (int call = 0; call < CALLS; call++) {
            String told = call < 8 && run % 3 != 0 ? addThing() : call();
            if (told == null) {
                return;
            }
            if (call % 16 == 0 && x.digest() != model.digest()) {
                check.complain("run " + run + ", call " + call + ", " + told + ": another digest");
                return;
            }
        }
    }

    /** A number in a range, or sometimes a bit outside of it. */
    private int some(int least, int most) {
        switch (random.nextInt(40)) {
            case 0:
                return least - 1;
            case 1:
                return most + 1;
            case 2:
                return random.nextInt();
            default:
                return least + random.nextInt(most - least + 1);
        }
    }

    private int somePerson() {
        return random.nextInt(3) == 0 ? some(0, 9) : some(0, 4);
    }

    private int someThing() {
        return random.nextInt(3) == 0 ? some(0, 7) : some(0, 2);
    }

    private int someMask() {
        return random.nextInt(3) == 0 ? some(0, 7) : 7;
    }

    private int someRights() {
        return random.nextInt(2) == 0 ? some(1, 7) : 5;
    }

    private int someThreshold() {
        return random.nextInt(2) == 0 ? some(0, 100) : some(0, 60);
    }

    private int someNumber() {
        int given = model.value(2);
        return some(given > 50 ? given - 50 : 0, given > 0 ? given - 1 : 0);
    }

    private String addThing() {
        int owner = somePerson();
        int mask = someMask();
        return same("addThing " + owner + " " + mask, () -> x.addThing(owner, mask), () -> model.addThing(owner, mask));
    }

    private String call() {
        if (!waiting.isEmpty()) {
            int value = waiting.charAt(0);
            waiting = waiting.substring(1);
            return same("append " + value, () -> x.append(value), () -> model.append(value));
        }
        int kind = random.nextInt(100);
        if (kind < 25) {
            return grant();
        }
        return kind < 55 ? change(kind) : kind < 62 ? text() : ask(kind);
    }

    private String grant() {
        int lender = somePerson();
        int borrower = somePerson();
        int thing = someThing();
        int rights = someRights();
        int threshold = someThreshold();
        String told = lender + " " + borrower + " " + thing + " " + rights + " " + threshold;
        if (random.nextInt(4) == 0) {
            return same("gainBy " + told, () -> x.gainBy(lender, borrower, thing, rights, threshold),
                    () -> model.gainBy(lender, borrower, thing, rights, threshold));
        }
        return same("grant " + told, () -> x.grant(lender, borrower, thing, rights, threshold),
                () -> model.grant(lender, borrower, thing, rights, threshold));
    }

    private String change(int kind) {
        int person = somePerson();
        int thing = someThing();
        if (kind < 28) {
            return addThing();
        } else if (kind < 31) {
            int mask = someMask();
            return same("setMask " + thing + " " + mask, () -> x.setMask(thing, mask), () -> model.setMask(thing, mask));
        } else if (kind < 34) {
            int base = some(0, 100);
            return same("setBase " + person + " " + base, () -> x.setBase(person, base),
                    () -> model.setBase(person, base));
        } else if (kind < 37) {
            return same("give " + thing + " " + person, () -> x.give(thing, person), () -> model.give(thing, person));
        } else if (kind < 42) {
            int number = someNumber();
            return same("revoke " + number, () -> x.revoke(number), () -> model.revoke(number));
        } else if (kind < 47) {
            int amount = random.nextInt(3) == 0 ? some(-100, 100) : some(-10, 20);
            return same("cheer " + person + " " + amount, () -> x.cheer(person, amount),
                    () -> model.cheer(person, amount));
        } else if (kind < 50) {
            int ticks = random.nextInt(3) == 0 ? some(1, 100) : some(1, 5);
            return same("pass " + ticks, () -> x.pass(ticks), () -> model.pass(ticks));
        }
        return same("undo", x::undo, model::undo);
    }

    private String text() {
        switch (random.nextInt(3)) {
            case 0:
                return same("clearText", x::clearText, model::clearText);
            case 1:
                return same("carryOut", x::carryOut, model::carryOut);
            default:
                StringBuilder orders = new StringBuilder();
                int count = random.nextInt(5);
                for (int order = 0; order < count; order++) {
                    orders.append(someOrder());
                }
                spoil(orders);
                waiting = orders.toString();
                return same("clearText", x::clearText, model::clearText);
        }
    }

    private String someOrder() {
        switch (random.nextInt(6)) {
            case 0:
                return "v" + zeros() + random.nextInt(Math.max(1, model.value(2))) + ";";
            case 1:
                return "c" + random.nextInt(10) + (random.nextBoolean() ? "+" : "-") + zeros() + someEdge(100) + ";";
            case 2:
                return "t" + zeros() + someEdge(50) + ";";
            default:
                return "g" + random.nextInt(4) + random.nextInt(5) + random.nextInt(3) + (1 + random.nextInt(7))
                        + "," + zeros() + (random.nextInt(4) == 0 ? someEdge(100) : random.nextInt(50)) + ";";
        }
    }

    private String zeros() {
        return random.nextInt(8) == 0 ? "0" : "";
    }

    private int someEdge(int most) {
        int[] edges = {0, 1, 9, 10, most, most, most + 1, 99};
        return random.nextInt(4) == 0 ? edges[random.nextInt(edges.length)] : random.nextInt(most + 1);
    }

    private void spoil(StringBuilder orders) {
        String bytes = "gvct0123456789,;+- x";
        if (orders.length() == 0 || random.nextInt(2) == 0) {
            return;
        }
        int place = random.nextInt(orders.length());
        switch (random.nextInt(4)) {
            case 0:
                orders.setLength(place);
                break;
            case 1:
                orders.deleteCharAt(place);
                break;
            case 2:
                orders.insert(place, bytes.charAt(random.nextInt(bytes.length())));
                break;
            default:
                orders.setCharAt(place, bytes.charAt(random.nextInt(bytes.length())));
                break;
        }
    }

    private String ask(int kind) {
        int person = somePerson();
        int thing = someThing();
        int what = some(0, 8);
        if (kind < 65) {
            return same("held " + person + " " + thing, () -> x.held(person, thing), () -> model.held(person, thing));
        } else if (kind < 68) {
            return same("person " + person + " " + what, () -> x.person(person, what),
                    () -> model.person(person, what));
        } else if (kind < 71) {
            return same("thing " + thing + " " + what, () -> x.thing(thing, what), () -> model.thing(thing, what));
        } else if (kind < 74) {
            int number = someNumber();
            return same("grantOf " + number + " " + what, () -> x.grantOf(number, what),
                    () -> model.grantOf(number, what));
        } else if (kind < 77) {
            return same("chain " + person + " " + thing, () -> x.chain(person, thing), () -> model.chain(person, thing));
        } else if (kind < 81) {
            int place = some(0, 3);
            return same("link " + person + " " + thing + " " + place, () -> x.link(person, thing, place),
                    () -> model.link(person, thing, place));
        } else if (kind < 85) {
            int right = random.nextInt(8) == 0 ? some(0, 7) : 1 << random.nextInt(3);
            return same("why " + person + " " + thing + " " + right, () -> x.why(person, thing, right),
                    () -> model.why(person, thing, right));
        }
        return askMore(kind, person, what);
    }

    private String askMore(int kind, int person, int what) {
        if (kind < 87) {
            return same("value " + what, () -> x.value(what), () -> model.value(what));
        } else if (kind < 90) {
            int index = some(0, 12);
            int part = some(0, 2);
            return same("entry " + index + " " + part, () -> x.entry(index, part), () -> model.entry(index, part));
        } else if (kind < 92) {
            return same("lostBy " + person, () -> x.lostBy(person), () -> model.lostBy(person));
        } else if (kind < 93) {
            return same("mostNeeded", x::mostNeeded, model::mostNeeded);
        } else if (kind < 95) {
            int ticks = some(0, 100);
            return same("seenIn " + ticks, () -> x.seenIn(ticks), () -> model.seenIn(ticks));
        } else if (kind < 97) {
            return same("patience " + person, () -> x.patience(person), () -> model.patience(person));
        }
        return same("meanChain", x::meanChain, model::meanChain);
    }

    /** Returns what was compared, or null if the answers differ: then the rest of the run tells nothing. */
    private String same(String told, Call of, Call due) {
        String got = outcome(of);
        String want = outcome(due);
        check.holds(told + " answered " + got + ", due is " + want + ": that", got.equals(want));
        return got.equals(want) ? told : null;
    }

    private static String outcome(Call call) {
        try {
            return String.valueOf(call.answer());
        } catch (RuntimeException e) {
            return e.getClass().getName();
        }
    }
}
