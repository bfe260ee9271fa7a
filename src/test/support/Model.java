import java.util.ArrayList;
import java.util.Arrays;
import java.util.HashMap;
import java.util.HashSet;
import java.util.List;
import java.util.Map;
import java.util.NoSuchElementException;
import java.util.Set;
import java.util.TreeMap;
import java.util.regex.Matcher;
import java.util.regex.Pattern;

/**
 * The document once more, written another way and without care for speed: each question is answered from the
 * grants anew, states are copied whole, and the text is judged by a pattern. The program is compared with it.
 */
final class Model {
    private static final int SEE = 1;
    private static final int LEND = 4;
    private static final String ORDER =
            "g(\\d)(\\d)([0-7])([1-7]),(\\d{1,3});|v(\\d{1,3});|c(\\d)([+-])(\\d{1,3});|t(\\d{1,2});";
    private static final Pattern ORDERS = Pattern.compile("(" + ORDER.replace("(", "(?:") + ")*", Pattern.DOTALL);
    private static final Pattern NUMBER = Pattern.compile("(?<=,)\\d+(?!\\d)|(?<=[+-])\\d+(?!\\d)|(?<=t)\\d+(?!\\d)");

    private static final class Grant {
        final int number;
        final int lender;
        final int borrower;
        final int thing;
        final int rights;
        final int threshold;

        Grant(int number, int lender, int borrower, int thing, int rights, int threshold) {
            this.number = number;
            this.lender = lender;
            this.borrower = borrower;
            this.thing = thing;
            this.rights = rights;
            this.threshold = threshold;
        }
    }

    private static final class State {
        int[] moods = new int[10];
        int[] bases = new int[10];
        List<int[]> things = new ArrayList<>();
        TreeMap<Integer, Grant> grants = new TreeMap<>();
        List<int[]> log = new ArrayList<>();
        int given;
        int died;
        int revoked;
        int time;

        State() {
            Arrays.fill(moods, 60);
            Arrays.fill(bases, 60);
        }

        State copy() {
            State copy = new State();
            copy.moods = moods.clone();
            copy.bases = bases.clone();
            things.forEach(thing -> copy.things.add(thing.clone()));
            copy.grants.putAll(grants);
            copy.log.addAll(log);
            copy.given = given;
            copy.died = died;
            copy.revoked = revoked;
            copy.time = time;
            return copy;
        }

        int owner(int thing) {
            return things.get(thing)[0];
        }

        int mask(int thing) {
            return things.get(thing)[1];
        }

        /** Starts from the owners alone, and goes on from what all hold to what all hold then. */
        int held(int person, int thing) {
            int[] now = new int[10];
            now[owner(thing)] = 7;
            for (int round = 0; round < 31; round++) {
                int[] then = new int[10];
                for (Grant grant : grants.values()) {
                    if (grant.thing == thing && (now[grant.lender] & LEND) != 0) {
                        then[grant.borrower] |= now[grant.lender] & grant.rights & mask(thing);
                    }
                }
                then[owner(thing)] = 7;
                if (Arrays.equals(now, then)) {
                    break;
                }
                now = then;
            }
            return now[person];
        }

        Set<Integer> pairs() {
            Set<Integer> pairs = new HashSet<>();
            for (int thing = 0; thing < things.size(); thing++) {
                for (int person = 0; person < 10; person++) {
                    if ((held(person, thing) & SEE) != 0) {
                        pairs.add(100 * person + thing);
                    }
                }
            }
            return pairs;
        }

        /** Of each length, the chain to each person that comes first when it is read from its end. */
        List<Integer> chain(int person, int thing) {
            if (person == owner(thing)) {
                return List.of();
            }
            if ((held(person, thing) & SEE) == 0) {
                return null;
            }
            Map<Integer, List<Integer>> ends = new HashMap<>();
            ends.put(owner(thing), List.of());
            for (int length = 1; length <= 10; length++) {
                Map<Integer, List<Integer>> next = new HashMap<>();
                for (Grant grant : grants.values()) {
                    boolean fits = grant.thing == thing && (grant.rights & SEE) != 0
                            && (held(grant.lender, thing) & (SEE | LEND)) == (SEE | LEND);
                    if (fits && ends.containsKey(grant.lender) && !next.containsKey(grant.borrower)) {
                        List<Integer> chain = new ArrayList<>(ends.get(grant.lender));
                        chain.add(grant.number);
                        next.put(grant.borrower, chain);
                    }
                }
                if (next.containsKey(person)) {
                    return next.get(person);
                }
                ends = next;
            }
            throw new AssertionError("a pair that sees has a chain");
        }

        int bury() {
            List<Grant> dying = new ArrayList<>();
            for (Grant grant : grants.values()) {
                if (moods[grant.lender] < grant.threshold) {
                    dying.add(grant);
                }
            }
            for (Grant grant : dying) {
                grants.remove(grant.number);
                log.add(0, new int[] {grant.number, time, grant.lender});
                died++;
            }
            while (log.size() > 12) {
                log.remove(12);
            }
            return dying.size();
        }

        int pass(int ticks) {
            int dead = 0;
            for (int tick = 0; tick < ticks; tick++) {
                for (int person = 0; person < 10; person++) {
                    moods[person] += Integer.signum(bases[person] - moods[person]);
                }
                time++;
                dead += bury();
            }
            return dead;
        }
    }

    private State now = new State();
    private final List<State> saved = new ArrayList<>();
    private String text = "";

    private void save() {
        saved.add(now.copy());
        if (saved.size() > 4) {
            saved.remove(0);
        }
    }

    private static void index(boolean fits) {
        if (!fits) {
            throw new IndexOutOfBoundsException();
        }
    }

    private static void argument(boolean fits) {
        if (!fits) {
            throw new IllegalArgumentException();
        }
    }

    private static void state(boolean fits) {
        if (!fits) {
            throw new IllegalStateException();
        }
    }

    private static void element(boolean fits) {
        if (!fits) {
            throw new NoSuchElementException();
        }
    }

    private static boolean in(int number, int least, int most) {
        return least <= number && number <= most;
    }

    private static boolean isPerson(int person) {
        return in(person, 0, 9);
    }

    private boolean isThing(int thing) {
        return in(thing, 0, now.things.size() - 1);
    }

    int addThing(int owner, int mask) {
        index(isPerson(owner));
        argument(in(mask, 0, 7));
        state(now.things.size() < 8);
        save();
        now.things.add(new int[] {owner, mask});
        return now.things.size() - 1;
    }

    int setMask(int thing, int mask) {
        index(isThing(thing));
        argument(in(mask, 0, 7));
        save();
        int previous = now.mask(thing);
        now.things.get(thing)[1] = mask;
        return previous;
    }

    int setBase(int person, int base) {
        index(isPerson(person));
        argument(in(base, 0, 100));
        save();
        int previous = now.bases[person];
        now.bases[person] = base;
        return previous;
    }

    int give(int thing, int owner) {
        index(isPerson(owner) && isThing(thing));
        save();
        int previous = now.owner(thing);
        now.things.get(thing)[0] = owner;
        return previous;
    }

    private void checkGrant(int lender, int borrower, int thing, int rights, int threshold) {
        index(isPerson(lender) && isPerson(borrower) && isThing(thing));
        argument(in(rights, 1, 7) && in(threshold, 0, 100) && lender != borrower);
        int held = now.held(lender, thing);
        state((held & LEND) != 0 && (held & rights) == rights);
        state(now.moods[lender] >= threshold && now.grants.size() < 40);
    }

    private int lend(State state, int lender, int borrower, int thing, int rights, int threshold) {
        int number = state.given++;
        state.grants.put(number, new Grant(number, lender, borrower, thing, rights, threshold));
        return number;
    }

    int grant(int lender, int borrower, int thing, int rights, int threshold) {
        checkGrant(lender, borrower, thing, rights, threshold);
        save();
        return lend(now, lender, borrower, thing, rights, threshold);
    }

    int revoke(int number) {
        element(now.grants.containsKey(number));
        save();
        return takeBack(number);
    }

    private int takeBack(int number) {
        Set<Integer> lost = now.pairs();
        now.grants.remove(number);
        now.revoked++;
        lost.removeAll(now.pairs());
        return lost.size();
    }

    int cheer(int person, int amount) {
        index(isPerson(person));
        argument(in(amount, -100, 100));
        save();
        return changeMood(now, person, amount);
    }

    private int changeMood(State state, int person, int amount) {
        state.moods[person] = Math.min(100, Math.max(0, state.moods[person] + amount));
        state.bury();
        return state.moods[person];
    }

    int pass(int ticks) {
        argument(in(ticks, 1, 100));
        state(now.time + ticks <= 100000);
        save();
        return now.pass(ticks);
    }

    int held(int person, int thing) {
        index(isPerson(person) && isThing(thing));
        return now.held(person, thing);
    }

    int person(int person, int what) {
        index(isPerson(person));
        argument(in(what, 0, 6));
        int seen = 0;
        int owned = 0;
        for (int thing = 0; thing < now.things.size(); thing++) {
            seen |= (now.held(person, thing) & SEE) << thing;
            owned += now.owner(thing) == person ? 1 : 0;
        }
        int[] answers = {
            now.moods[person],
            now.bases[person],
            owned,
            Integer.bitCount(seen),
            (int) now.grants.values().stream().filter(grant -> grant.lender == person).count(),
            (int) now.grants.values().stream().filter(grant -> grant.borrower == person).count(),
            seen,
        };
        return answers[what];
    }

    int thing(int thing, int what) {
        index(isThing(thing));
        argument(in(what, 0, 5));
        if (what < 2) {
            return now.things.get(thing)[what];
        }
        if (what == 2) {
            return (int) now.grants.values().stream().filter(grant -> grant.thing == thing).count();
        }
        int set = 0;
        for (int person = 0; person < 10; person++) {
            set |= (now.held(person, thing) >> what - 3 & 1) << person;
        }
        return set;
    }

    int grantOf(int number, int what) {
        element(now.grants.containsKey(number));
        argument(in(what, 0, 5));
        Grant grant = now.grants.get(number);
        int held = now.held(grant.lender, grant.thing);
        int passed = (held & LEND) == 0 ? 0 : held & grant.rights & now.mask(grant.thing);
        return new int[] {grant.lender, grant.borrower, grant.thing, grant.rights, grant.threshold, passed}[what];
    }

    int chain(int person, int thing) {
        index(isPerson(person) && isThing(thing));
        List<Integer> chain = now.chain(person, thing);
        return chain == null ? -1 : chain.size();
    }

    int link(int person, int thing, int place) {
        index(isPerson(person) && isThing(thing));
        List<Integer> chain = now.chain(person, thing);
        index(chain != null && in(place, 0, chain.size() - 1));
        return chain.get(place);
    }

    int why(int person, int thing, int right) {
        index(isPerson(person) && isThing(thing));
        argument(right == 1 || right == 2 || right == 4);
        if ((now.held(person, thing) & right) != 0) {
            return 0;
        }
        if ((now.mask(thing) & right) == 0) {
            return 1;
        }
        List<Grant> having = new ArrayList<>(now.grants.values());
        having.removeIf(grant -> grant.borrower != person || grant.thing != thing || (grant.rights & right) == 0);
        if (having.isEmpty()) {
            return 2;
        }
        having.removeIf(grant -> (now.held(grant.lender, thing) & LEND) == 0);
        return having.isEmpty() ? 3 : 4;
    }

    int value(int what) {
        argument(in(what, 0, 8));
        int idle = 0;
        for (int number : now.grants.keySet()) {
            idle += grantOf(number, 5) == 0 ? 1 : 0;
        }
        return new int[] {now.things.size(), now.grants.size(), now.given, now.died, now.revoked, now.time,
            now.pairs().size(), idle, now.log.size()}[what];
    }

    int entry(int index, int what) {
        index(in(index, 0, now.log.size() - 1));
        argument(in(what, 0, 2));
        return now.log.get(index)[what];
    }

    int lostBy(int person) {
        index(isPerson(person));
        State then = now.copy();
        then.moods[person] = 0;
        then.bury();
        Set<Integer> lost = now.pairs();
        lost.removeAll(then.pairs());
        return lost.size();
    }

    int mostNeeded() {
        int most = -1;
        for (int person = 9; person >= 0; person--) {
            int lost = lostBy(person);
            if (lost > 0 && (most == -1 || lost >= lostBy(most))) {
                most = person;
            }
        }
        return most;
    }

    int seenIn(int ticks) {
        argument(in(ticks, 0, 100));
        State then = now.copy();
        then.pass(ticks);
        return then.pairs().size();
    }

    int gainBy(int lender, int borrower, int thing, int rights, int threshold) {
        try {
            checkGrant(lender, borrower, thing, rights, threshold);
        } catch (IllegalStateException e) {
            return -1;
        }
        State then = now.copy();
        lend(then, lender, borrower, thing, rights, threshold);
        Set<Integer> gained = then.pairs();
        gained.removeAll(now.pairs());
        return gained.size();
    }

    int patience(int person) {
        index(isPerson(person));
        int least = now.moods[person];
        for (Grant grant : now.grants.values()) {
            if (grant.lender == person) {
                least = Math.min(least, now.moods[person] - grant.threshold);
            }
        }
        return least;
    }

    double meanChain() {
        double sum = 0;
        double pairs = 0;
        for (int pair : now.pairs()) {
            sum += now.chain(pair / 100, pair % 100).size();
            pairs++;
        }
        return pairs == 0 ? 0 : sum / pairs;
    }

    int append(int value) {
        argument(in(value, 0, 127));
        state(text.length() < 100);
        text += (char) value;
        return text.length();
    }

    int clearText() {
        int length = text.length();
        text = "";
        return length;
    }

    int carryOut() {
        int fault = syntaxFault();
        if (fault >= 0) {
            return -10 - fault;
        }
        save();
        int made = 0;
        Matcher order = Pattern.compile(ORDER).matcher(text);
        while (order.find()) {
            if (!obey(order)) {
                return made;
            }
            made++;
        }
        return made;
    }

    /** The first byte at which the text is no beginning of orders any more, or the first number out of range. */
    private int syntaxFault() {
        Matcher all = ORDERS.matcher(text);
        int stop = all.matches() ? text.length() + 1 : text.length();
        for (int length = text.length(); length > 0; length--) {
            Matcher part = ORDERS.matcher(text.substring(0, length));
            if (!part.matches() && !part.hitEnd()) {
                stop = length - 1;
            }
        }
        Matcher number = NUMBER.matcher(text);
        while (number.find()) {
            // A number is read to its end only if the byte behind it is reached, even if that one can't stand there.
            boolean isRead = number.end() <= stop;
            boolean isTicks = number.start() > 0 && text.charAt(number.start() - 1) == 't';
            int value = isRead ? Integer.parseInt(number.group()) : 0;
            if (isRead && !(isTicks ? in(value, 1, 50) : in(value, 0, 100))) {
                return number.start();
            }
        }
        return stop > text.length() ? -1 : stop;
    }

    private boolean obey(Matcher order) {
        try {
            if (order.group(1) != null) {
                int[] given = new int[5];
                for (int part = 0; part < 5; part++) {
                    given[part] = Integer.parseInt(order.group(part + 1));
                }
                checkGrant(given[0], given[1], given[2], given[3], given[4]);
                lend(now, given[0], given[1], given[2], given[3], given[4]);
            } else if (order.group(6) != null) {
                int number = Integer.parseInt(order.group(6));
                element(now.grants.containsKey(number));
                takeBack(number);
            } else if (order.group(7) != null) {
                int amount = Integer.parseInt(order.group(8) + order.group(9));
                changeMood(now, Integer.parseInt(order.group(7)), amount);
            } else {
                int ticks = Integer.parseInt(order.group(10));
                state(now.time + ticks <= 100000);
                now.pass(ticks);
            }
            return true;
        } catch (IndexOutOfBoundsException | IllegalArgumentException | IllegalStateException
                | NoSuchElementException e) {
            return false;
        }
    }

    int undo() {
        state(!saved.isEmpty());
        now = saved.remove(saved.size() - 1);
        return saved.size();
    }

    long digest() {
        List<Integer> values = new ArrayList<>();
        values.add(text.length());
        for (int what = 0; what <= 8; what++) {
            values.add(value(what));
        }
        for (int person = 0; person < 10; person++) {
            for (int what = 0; what <= 6; what++) {
                values.add(person(person, what));
            }
        }
        for (int thing = 0; thing < now.things.size(); thing++) {
            for (int what = 0; what <= 5; what++) {
                values.add(thing(thing, what));
            }
        }
        for (int number : now.grants.keySet()) {
            values.add(number);
            for (int what = 0; what <= 5; what++) {
                values.add(grantOf(number, what));
            }
        }
        for (int index = 0; index < now.log.size(); index++) {
            for (int what = 0; what <= 2; what++) {
                values.add(entry(index, what));
            }
        }
        values.add(saved.size());
        long hash = 3671;
        for (int value : values) {
            hash = 31 * hash + value;
        }
        return hash;
    }
}
