import java.util.NoSuchElementException;

/** Rights to things that are lent from person to person and die with the mood of the lender. */
public final class LentRights {
    public static final int NONE = -1;

    private static final int PERSONS = 10;
    private static final int MOST_THINGS = 8;
    private static final int MOST_GRANTS = 40;
    private static final int MOST_ENTRIES = 12;
    private static final int MOST_SAVED = 4;
    private static final int MOST_BYTES = 100;
    private static final int MOST_TICKS = 100;
    private static final int LAST_TIME = 100000;
    private static final int HIGHEST = 100;
    private static final int FIRST_MOOD = 60;

    private static final int SEE = 1;
    private static final int USE = 2;
    private static final int LEND = 4;
    private static final int ALL_RIGHTS = 7;
    private static final int KINDS_OF_RIGHTS = 3;

    // The columns of the tables stand in the order of the document's "what", where it has one.
    private static final int MOOD = 0;
    private static final int BASE = 1;
    private static final int OWNER = 0;
    private static final int MASK = 1;
    private static final int LENDER = 0;
    private static final int BORROWER = 1;
    private static final int THING = 2;
    private static final int RIGHTS = 3;
    private static final int THRESHOLD = 4;
    private static final int NUMBER = 5;
    private static final int DEAD_NUMBER = 0;
    private static final int DEAD_TIME = 1;
    private static final int DEAD_LENDER = 2;

    private static final int LAST_OF_PERSON = 6;
    private static final int LAST_OF_THING = 5;
    private static final int LAST_OF_GRANT = 5;
    private static final int LAST_OF_VALUE = 8;
    private static final int LAST_OF_ENTRY = 2;

    private static final int FINE = 0;
    private static final int NO_SUCH = 1;
    private static final int OUT_OF_RANGE = 2;
    private static final int NOT_ALLOWED = 3;

    private static final int SYNTAX_ERROR = -10;

    private final House house;
    private final House trial;
    private final History history;
    private final Chains chains;
    private final Text text;

    public LentRights() {
        house = new House();
        trial = new House();
        history = new History();
        chains = new Chains();
        text = new Text();
    }

    // ---- house

    public int addThing(int owner, int mask)
            throws IndexOutOfBoundsException, IllegalArgumentException, IllegalStateException {
        requirePerson(owner);
        requireMask(mask);
        if (house.things.isFull()) {
            throw new IllegalStateException("there are 8 things");
        }
        history.keep(house);
        return house.takeIn(owner, mask);
    }

    public int setMask(int thing, int mask) throws IndexOutOfBoundsException, IllegalArgumentException {
        requireThing(thing);
        requireMask(mask);
        history.keep(house);
        return house.changeThing(thing, MASK, mask);
    }

    public int setBase(int person, int base) throws IndexOutOfBoundsException, IllegalArgumentException {
        requirePerson(person);
        requireRange(base, 0, HIGHEST);
        history.keep(house);
        int previous = house.persons.at(person, BASE);
        house.persons.put(person, BASE, base);
        return previous;
    }

    public int give(int thing, int owner) throws IndexOutOfBoundsException {
        requirePerson(owner);
        requireThing(thing);
        history.keep(house);
        return house.changeThing(thing, OWNER, owner);
    }

    public int grant(int lender, int borrower, int thing, int rights, int threshold)
            throws IndexOutOfBoundsException, IllegalArgumentException, IllegalStateException {
        int fault = house.faultOfGrant(lender, borrower, thing, rights, threshold);
        requireFit(fault);
        if (fault == NOT_ALLOWED) {
            throw new IllegalStateException("the lender can't give this grant now");
        }
        history.keep(house);
        return house.lend(lender, borrower, thing, rights, threshold);
    }

    public int revoke(int number) throws NoSuchElementException {
        int place = requireGrant(number);
        history.keep(house);
        return house.takeBack(place);
    }

    public int cheer(int person, int amount) throws IndexOutOfBoundsException, IllegalArgumentException {
        requirePerson(person);
        requireRange(amount, -HIGHEST, HIGHEST);
        history.keep(house);
        return house.changeMood(person, amount);
    }

    public int pass(int ticks) throws IllegalArgumentException, IllegalStateException {
        requireRange(ticks, 1, MOST_TICKS);
        if (!house.hasTimeFor(ticks)) {
            throw new IllegalStateException("the time would be greater than 100000");
        }
        history.keep(house);
        return house.letPass(ticks);
    }

    // ---- values

    public int held(int person, int thing) throws IndexOutOfBoundsException {
        requirePerson(person);
        requireThing(thing);
        return house.rightsOf(person, thing);
    }

    public int person(int person, int what) throws IndexOutOfBoundsException, IllegalArgumentException {
        requirePerson(person);
        requireRange(what, 0, LAST_OF_PERSON);
        return house.aboutPerson(person, what);
    }

    public int thing(int thing, int what) throws IndexOutOfBoundsException, IllegalArgumentException {
        requireThing(thing);
        requireRange(what, 0, LAST_OF_THING);
        return house.aboutThing(thing, what);
    }

    public int grantOf(int number, int what) throws NoSuchElementException, IllegalArgumentException {
        int place = requireGrant(number);
        requireRange(what, 0, LAST_OF_GRANT);
        return house.aboutGrant(place, what);
    }

    public int chain(int person, int thing) throws IndexOutOfBoundsException {
        requirePerson(person);
        requireThing(thing);
        chains.measure(house, thing);
        return chains.stepsTo(person);
    }

    public int link(int person, int thing, int place) throws IndexOutOfBoundsException {
        requirePerson(person);
        requireThing(thing);
        chains.measure(house, thing);
        if (place < 0 || place >= chains.stepsTo(person)) {
            throw new IndexOutOfBoundsException("the chain has not so many grants");
        }
        return chains.numberAt(house, person, thing, place);
    }

    public int why(int person, int thing, int right) throws IndexOutOfBoundsException, IllegalArgumentException {
        requirePerson(person);
        requireThing(thing);
        if (right != SEE && right != USE && right != LEND) {
            throw new IllegalArgumentException("the right is not 1, 2 or 4");
        }
        return house.reasonAgainst(person, thing, right);
    }

    public int value(int what) throws IllegalArgumentException {
        requireRange(what, 0, LAST_OF_VALUE);
        return house.aboutHouse(what);
    }

    public int entry(int index, int what) throws IndexOutOfBoundsException, IllegalArgumentException {
        if (index < 0 || index >= house.log.rows()) {
            throw new IndexOutOfBoundsException("not so many entries are kept");
        }
        requireRange(what, 0, LAST_OF_ENTRY);
        return house.aboutEntry(index, what);
    }

    // ---- what if

    public int lostBy(int person) throws IndexOutOfBoundsException {
        requirePerson(person);
        return pairsLostBy(person);
    }

    public int mostNeeded() {
        int needed = NONE;
        int most = 0;
        for (int person = 0; person < PERSONS; person++) {
            int lost = pairsLostBy(person);
            if (lost > most) {
                most = lost;
                needed = person;
            }
        }
        return needed;
    }

    public int seenIn(int ticks) throws IllegalArgumentException {
        requireRange(ticks, 0, MOST_TICKS);
        trial.takeOver(house);
        trial.letPass(ticks);
        return trial.countPairs();
    }

    public int gainBy(int lender, int borrower, int thing, int rights, int threshold)
            throws IndexOutOfBoundsException, IllegalArgumentException {
        int fault = house.faultOfGrant(lender, borrower, thing, rights, threshold);
        requireFit(fault);
        if (fault == NOT_ALLOWED) {
            return NONE;
        }
        trial.takeOver(house);
        trial.lend(lender, borrower, thing, rights, threshold);
        return trial.countPairs() - house.countPairs();
    }

    public int patience(int person) throws IndexOutOfBoundsException {
        requirePerson(person);
        return house.persons.at(person, MOOD) - house.greatestThreshold(person);
    }

    public double meanChain() {
        int pairs = 0;
        int sum = 0;
        for (int thing = 0; thing < house.things.rows(); thing++) {
            chains.measure(house, thing);
            for (int person = 0; person < PERSONS; person++) {
                int steps = chains.stepsTo(person);
                if (steps != NONE) {
                    pairs++;
                    sum += steps;
                }
            }
        }
        return pairs == 0 ? 0.0 : (double) sum / (double) pairs;
    }

    // ---- text

    public int append(int value) throws IllegalArgumentException, IllegalStateException {
        requireRange(value, 0, 127);
        if (text.isFull()) {
            throw new IllegalStateException("the text has 100 bytes");
        }
        text.add(value);
        return text.length();
    }

    public int clearText() {
        int previous = text.length();
        text.empty();
        return previous;
    }

    public int carryOut() {
        int fault = text.read();
        if (fault != NONE) {
            return SYNTAX_ERROR - fault;
        }
        history.keep(house);
        Table orders = text.orders;
        for (int order = 0; order < orders.rows(); order++) {
            if (!obey(orders, order)) {
                return order;
            }
        }
        return orders.rows();
    }

    // ---- state

    public int undo() throws IllegalStateException {
        if (history.count() == 0) {
            throw new IllegalStateException("there is no saved state");
        }
        history.giveBack(house);
        return history.count();
    }

    public long digest() {
        long hash = 31L * 3671L + text.length();
        for (int what = 0; what <= LAST_OF_VALUE; what++) {
            hash = 31L * hash + house.aboutHouse(what);
        }
        hash = hashOfPersons(hash);
        hash = hashOfThings(hash);
        hash = hashOfGrants(hash);
        hash = hashOfLog(hash);
        return 31L * hash + history.count();
    }

    private long hashOfPersons(long start) {
        long hash = start;
        for (int person = 0; person < PERSONS; person++) {
            for (int what = 0; what <= LAST_OF_PERSON; what++) {
                hash = 31L * hash + house.aboutPerson(person, what);
            }
        }
        return hash;
    }

    private long hashOfThings(long start) {
        long hash = start;
        for (int thing = 0; thing < house.things.rows(); thing++) {
            for (int what = 0; what <= LAST_OF_THING; what++) {
                hash = 31L * hash + house.aboutThing(thing, what);
            }
        }
        return hash;
    }

    private long hashOfGrants(long start) {
        long hash = start;
        for (int place = 0; place < house.grants.rows(); place++) {
            hash = 31L * hash + house.grants.at(place, NUMBER);
            for (int what = 0; what <= LAST_OF_GRANT; what++) {
                hash = 31L * hash + house.aboutGrant(place, what);
            }
        }
        return hash;
    }

    private long hashOfLog(long start) {
        long hash = start;
        for (int index = 0; index < house.log.rows(); index++) {
            for (int what = 0; what <= LAST_OF_ENTRY; what++) {
                hash = 31L * hash + house.aboutEntry(index, what);
            }
        }
        return hash;
    }

    private int pairsLostBy(int person) {
        trial.takeOver(house);
        trial.changeMood(person, -HIGHEST);
        return house.countPairs() - trial.countPairs();
    }

    /** Carries out one order, if the method that it stands for would not throw; tells if it did. */
    private boolean obey(Table orders, int order) {
        int first = orders.at(order, Text.FIRST);
        switch (orders.at(order, Text.KIND)) {
            case 'g':
                return obeyGrant(orders, order);
            case 'v':
                return obeyRevoke(first);
            case 'c':
                house.changeMood(first, orders.at(order, Text.SECOND));
                return true;
            case 't':
                return obeyPass(first);
            default:
                return false;
        }
    }

    private boolean obeyGrant(Table orders, int order) {
        int lender = orders.at(order, Text.FIRST);
        int borrower = orders.at(order, Text.SECOND);
        int thing = orders.at(order, Text.THIRD);
        int rights = orders.at(order, Text.FOURTH);
        int threshold = orders.at(order, Text.FIFTH);
        if (house.faultOfGrant(lender, borrower, thing, rights, threshold) != FINE) {
            return false;
        }
        house.lend(lender, borrower, thing, rights, threshold);
        return true;
    }

    private boolean obeyRevoke(int number) {
        int place = house.placeOf(number);
        if (place == NONE) {
            return false;
        }
        house.takeBack(place);
        return true;
    }

    private boolean obeyPass(int ticks) {
        if (!house.hasTimeFor(ticks)) {
            return false;
        }
        house.letPass(ticks);
        return true;
    }

    private static void requireFit(int fault) {
        if (fault == NO_SUCH) {
            throw new IndexOutOfBoundsException("no such person or thing");
        }
        if (fault == OUT_OF_RANGE) {
            throw new IllegalArgumentException("rights or threshold out of range, or a grant to oneself");
        }
    }

    private int requireGrant(int number) {
        int place = house.placeOf(number);
        if (place == NONE) {
            throw new NoSuchElementException("no such grant lives");
        }
        return place;
    }

    private void requireThing(int thing) {
        if (!house.things.has(thing)) {
            throw new IndexOutOfBoundsException("no such thing");
        }
    }

    private static void requirePerson(int person) {
        if (!isPerson(person)) {
            throw new IndexOutOfBoundsException("no such person");
        }
    }

    private static void requireMask(int mask) {
        requireRange(mask, 0, ALL_RIGHTS);
    }

    private static void requireRange(int number, int least, int most) {
        if (!isBetween(number, least, most)) {
            throw new IllegalArgumentException("out of range");
        }
    }

    private static boolean isPerson(int person) {
        return isBetween(person, 0, PERSONS - 1);
    }

    private static boolean isBetween(int number, int least, int most) {
        return number >= least && number <= most;
    }

    /** A limited number of rows of numbers, the first ones of which are in use. */
    private static final class Table {
        private final int limit;
        private final int columns;
        private final int[] cells;
        private int rows;

        Table(int limit, int columns) {
            this.limit = limit;
            this.columns = columns;
            this.cells = new int[limit > 0 && columns > 0 ? limit * columns : 0];
        }

        int rows() {
            return rows;
        }

        boolean has(int row) {
            return row >= 0 && row < rows;
        }

        boolean isFull() {
            return rows >= limit;
        }

        int at(int row, int column) {
            boolean used = row >= 0 && row < rows && column >= 0 && column < columns;
            int cell = row * columns + column;
            return used && cell >= 0 && cell < cells.length ? cells[cell] : 0;
        }

        void put(int row, int column, int number) {
            boolean used = row >= 0 && row < rows && column >= 0 && column < columns;
            int cell = row * columns + column;
            if (used && cell >= 0 && cell < cells.length) {
                cells[cell] = number;
            }
        }

        /** Opens a row at the end, whose numbers are still to be put. */
        int addRow() {
            if (rows >= limit) {
                return NONE;
            }
            rows++;
            return rows - 1;
        }

        void drop(int row) {
            if (row < 0 || row >= rows) {
                return;
            }
            int used = rows * columns;
            for (int to = row * columns; to < used - columns; to++) {
                int from = to + columns;
                if (to >= 0 && to < cells.length && from >= 0 && from < cells.length) {
                    cells[to] = cells[from];
                }
            }
            rows--;
        }

        void dropAll() {
            rows = 0;
        }

        void takeOver(Table other) {
            rows = other.rows < limit ? other.rows : limit;
            int used = rows * columns;
            for (int cell = 0; cell < used && cell < cells.length && cell < other.cells.length; cell++) {
                cells[cell] = other.cells[cell];
            }
        }
    }

    /** All that undo() brings back: persons, things, living grants (in ascending order), log and counts. */
    private static final class House {
        // Each round of settle() but the last one adds a right of a person to a thing.
        private static final int MOST_ROUNDS = MOST_THINGS * PERSONS * KINDS_OF_RIGHTS + 1;

        final Table persons;
        final Table things;
        final Table grants;
        final Table log;
        // The rights that each person (column) holds to each thing (row), as settle() found them.
        private final Table held;
        private int given;
        private int died;
        private int revoked;
        private int time;

        House() {
            persons = new Table(PERSONS, BASE + 1);
            things = new Table(MOST_THINGS, MASK + 1);
            grants = new Table(MOST_GRANTS, NUMBER + 1);
            log = new Table(MOST_ENTRIES, DEAD_LENDER + 1);
            held = new Table(MOST_THINGS, PERSONS);
            for (int person = 0; person < PERSONS; person++) {
                persons.addRow();
                persons.put(person, MOOD, FIRST_MOOD);
                persons.put(person, BASE, FIRST_MOOD);
            }
        }

        void takeOver(House other) {
            persons.takeOver(other.persons);
            things.takeOver(other.things);
            grants.takeOver(other.grants);
            log.takeOver(other.log);
            held.takeOver(other.held);
            given = other.given;
            died = other.died;
            revoked = other.revoked;
            time = other.time;
        }

        int takeIn(int owner, int mask) {
            int thing = things.addRow();
            things.put(thing, OWNER, owner);
            things.put(thing, MASK, mask);
            held.addRow();
            settle();
            return thing;
        }

        int changeThing(int thing, int column, int number) {
            int previous = things.at(thing, column);
            things.put(thing, column, number);
            settle();
            return previous;
        }

        /** Tells which exception grant() would throw. */
        int faultOfGrant(int lender, int borrower, int thing, int rights, int threshold) {
            if (!isPerson(lender) || !isPerson(borrower) || !things.has(thing)) {
                return NO_SUCH;
            }
            boolean inRange = isBetween(rights, 1, ALL_RIGHTS) && isBetween(threshold, 0, HIGHEST);
            if (!inRange || lender == borrower) {
                return OUT_OF_RANGE;
            }
            int needed = rights | LEND;
            boolean holdsAll = (rightsOf(lender, thing) & needed) == needed;
            boolean willing = persons.at(lender, MOOD) >= threshold;
            return holdsAll && willing && !grants.isFull() ? FINE : NOT_ALLOWED;
        }

        int lend(int lender, int borrower, int thing, int rights, int threshold) {
            int number = given;
            int place = grants.addRow();
            grants.put(place, LENDER, lender);
            grants.put(place, BORROWER, borrower);
            grants.put(place, THING, thing);
            grants.put(place, RIGHTS, rights);
            grants.put(place, THRESHOLD, threshold);
            grants.put(place, NUMBER, number);
            given++;
            settle();
            return number;
        }

        /** Revokes the grant and returns the pairs that do not see any more by it. */
        int takeBack(int place) {
            int before = countPairs();
            grants.drop(place);
            revoked++;
            settle();
            return before - countPairs();
        }

        int changeMood(int person, int amount) {
            int wanted = persons.at(person, MOOD) + amount;
            int mood = Math.max(0, Math.min(HIGHEST, wanted));
            persons.put(person, MOOD, mood);
            if (buryDying() > 0) {
                settle();
            }
            return mood;
        }

        boolean hasTimeFor(int ticks) {
            return time + ticks <= LAST_TIME;
        }

        int letPass(int ticks) {
            int dead = 0;
            for (int tick = 0; tick < ticks; tick++) {
                for (int person = 0; person < PERSONS; person++) {
                    calm(person);
                }
                time++;
                dead += buryDying();
            }
            if (dead > 0) {
                settle();
            }
            return dead;
        }

        int rightsOf(int person, int thing) {
            return held.at(thing, person);
        }

        int placeOf(int number) {
            for (int place = 0; place < grants.rows(); place++) {
                if (grants.at(place, NUMBER) == number) {
                    return place;
                }
            }
            return NONE;
        }

        /** The rights that a living grant passes on now. */
        int passedOn(int place) {
            int thing = grants.at(place, THING);
            int lenders = held.at(thing, grants.at(place, LENDER));
            if ((lenders & LEND) == 0) {
                return 0;
            }
            return grants.at(place, RIGHTS) & lenders & things.at(thing, MASK);
        }

        int countPairs() {
            int pairs = 0;
            for (int thing = 0; thing < things.rows(); thing++) {
                pairs += Integer.bitCount(holdersOf(thing, SEE));
            }
            return pairs;
        }

        int greatestThreshold(int lender) {
            int greatest = 0;
            for (int place = 0; place < grants.rows(); place++) {
                if (grants.at(place, LENDER) == lender) {
                    greatest = Math.max(greatest, grants.at(place, THRESHOLD));
                }
            }
            return greatest;
        }

        int aboutPerson(int person, int what) {
            switch (what) {
                case 0:
                    return persons.at(person, MOOD);
                case 1:
                    return persons.at(person, BASE);
                case 2:
                    return countEqual(things, OWNER, person);
                case 3:
                    return Integer.bitCount(thingsSeenBy(person));
                case 4:
                    return countEqual(grants, LENDER, person);
                case 5:
                    return countEqual(grants, BORROWER, person);
                default:
                    return thingsSeenBy(person);
            }
        }

        int aboutThing(int thing, int what) {
            switch (what) {
                case 0:
                    return things.at(thing, OWNER);
                case 1:
                    return things.at(thing, MASK);
                case 2:
                    return countEqual(grants, THING, thing);
                case 3:
                    return holdersOf(thing, SEE);
                case 4:
                    return holdersOf(thing, USE);
                default:
                    return holdersOf(thing, LEND);
            }
        }

        int aboutGrant(int place, int what) {
            return what <= THRESHOLD ? grants.at(place, what) : passedOn(place);
        }

        int aboutEntry(int index, int what) {
            return log.at(log.rows() - 1 - index, what);
        }

        int aboutHouse(int what) {
            switch (what) {
                case 0:
                    return things.rows();
                case 1:
                    return grants.rows();
                case 2:
                    return given;
                case 3:
                    return died;
                case 4:
                    return revoked;
                case 5:
                    return time;
                case 6:
                    return countPairs();
                case 7:
                    return countIdleGrants();
                default:
                    return log.rows();
            }
        }

        /** The reason that why() tells. */
        int reasonAgainst(int person, int thing, int right) {
            if ((rightsOf(person, thing) & right) != 0) {
                return 0;
            }
            if ((things.at(thing, MASK) & right) == 0) {
                return 1;
            }
            int reason = 2;
            for (int place = 0; place < grants.rows(); place++) {
                if (isGrantOf(place, person, thing, right)) {
                    int lenders = rightsOf(grants.at(place, LENDER), thing);
                    reason = Math.max(reason, (lenders & LEND) == 0 ? 3 : 4);
                }
            }
            return reason;
        }

        private boolean isGrantOf(int place, int borrower, int thing, int right) {
            return grants.at(place, BORROWER) == borrower
                    && grants.at(place, THING) == thing
                    && (grants.at(place, RIGHTS) & right) != 0;
        }

        /** Finds out anew what everybody holds: only what comes from an owner, so that circles feed nothing. */
        private void settle() {
            for (int thing = 0; thing < things.rows(); thing++) {
                for (int person = 0; person < PERSONS; person++) {
                    held.put(thing, person, person == things.at(thing, OWNER) ? ALL_RIGHTS : 0);
                }
            }
            boolean grown = true;
            for (int round = 0; round < MOST_ROUNDS && grown; round++) {
                grown = false;
                for (int place = 0; place < grants.rows(); place++) {
                    int thing = grants.at(place, THING);
                    int borrower = grants.at(place, BORROWER);
                    int before = held.at(thing, borrower);
                    int after = before | passedOn(place);
                    held.put(thing, borrower, after);
                    grown = grown || after != before;
                }
            }
        }

        private void calm(int person) {
            int mood = persons.at(person, MOOD);
            int base = persons.at(person, BASE);
            if (mood != base) {
                persons.put(person, MOOD, mood < base ? mood + 1 : mood - 1);
            }
        }

        /** Ends the grants whose lenders' moods are too low, and returns their number. */
        private int buryDying() {
            int dead = 0;
            for (int place = 0; place < grants.rows(); place++) {
                if (isDying(place)) {
                    enter(place);
                    dead++;
                }
            }
            for (int place = grants.rows() - 1; place >= 0 && dead > 0; place--) {
                if (isDying(place)) {
                    grants.drop(place);
                }
            }
            died += dead;
            return dead;
        }

        private boolean isDying(int place) {
            return persons.at(grants.at(place, LENDER), MOOD) < grants.at(place, THRESHOLD);
        }

        private void enter(int place) {
            if (log.isFull()) {
                log.drop(0);
            }
            int row = log.addRow();
            log.put(row, DEAD_NUMBER, grants.at(place, NUMBER));
            log.put(row, DEAD_TIME, time);
            log.put(row, DEAD_LENDER, grants.at(place, LENDER));
        }

        private int thingsSeenBy(int person) {
            int set = 0;
            for (int thing = 0; thing < things.rows(); thing++) {
                if ((held.at(thing, person) & SEE) != 0) {
                    set |= 1 << thing;
                }
            }
            return set;
        }

        private int holdersOf(int thing, int right) {
            int set = 0;
            for (int person = 0; person < PERSONS; person++) {
                if ((held.at(thing, person) & right) != 0) {
                    set |= 1 << person;
                }
            }
            return set;
        }

        private int countIdleGrants() {
            int idle = 0;
            for (int place = 0; place < grants.rows(); place++) {
                if (passedOn(place) == 0) {
                    idle++;
                }
            }
            return idle;
        }

        private static int countEqual(Table table, int column, int number) {
            int equal = 0;
            for (int row = 0; row < table.rows(); row++) {
                if (table.at(row, column) == number) {
                    equal++;
                }
            }
            return equal;
        }
    }

    /** The shortest chains of the thing that was measured last. */
    private static final class Chains {
        // One row: the length of a shortest chain to each person.
        private final Table steps;

        Chains() {
            steps = new Table(1, PERSONS);
            steps.addRow();
        }

        int stepsTo(int person) {
            return steps.at(0, person);
        }

        void measure(House house, int thing) {
            for (int person = 0; person < PERSONS; person++) {
                steps.put(0, person, person == house.things.at(thing, OWNER) ? 0 : NONE);
            }
            boolean further = true;
            for (int length = 1; length < PERSONS && further; length++) {
                further = false;
                for (int place = 0; place < house.grants.rows(); place++) {
                    int borrower = house.grants.at(place, BORROWER);
                    if (stepsTo(borrower) == NONE && isLink(house, place, thing, length)) {
                        steps.put(0, borrower, length);
                        further = true;
                    }
                }
            }
        }

        /** The number of the grant at a place of the chain to a person, found from the chain's end. */
        int numberAt(House house, int person, int thing, int place) {
            int number = NONE;
            int borrower = person;
            for (int length = stepsTo(person); length > place && length > 0; length--) {
                int last = lastLink(house, borrower, thing, length);
                number = house.grants.at(last, NUMBER);
                borrower = house.grants.at(last, LENDER);
            }
            return number;
        }

        private int lastLink(House house, int borrower, int thing, int length) {
            for (int place = 0; place < house.grants.rows(); place++) {
                boolean ends = house.grants.at(place, BORROWER) == borrower;
                if (ends && isLink(house, place, thing, length)) {
                    return place;
                }
            }
            return NONE;
        }

        /** Tells if a grant can be the last one of a chain of this length: just those that pass on sight can. */
        private boolean isLink(House house, int place, int thing, int length) {
            return house.grants.at(place, THING) == thing
                    && stepsTo(house.grants.at(place, LENDER)) == length - 1
                    && (house.passedOn(place) & SEE) != 0;
        }
    }

    /** The saved states, the oldest one first. */
    private static final class History {
        private final House[] states;
        private int count;

        History() {
            states = new House[MOST_SAVED];
            for (int place = 0; place < states.length; place++) {
                states[place] = new House();
            }
        }

        int count() {
            return count;
        }

        void keep(House house) {
            if (count >= states.length) {
                makeRoom();
            }
            if (count >= 0 && count < states.length && states[count] != null) {
                states[count].takeOver(house);
                count++;
            }
        }

        void giveBack(House house) {
            int latest = count - 1;
            if (latest >= 0 && latest < states.length && states[latest] != null) {
                house.takeOver(states[latest]);
                count = latest;
            }
        }

        /** Lets the oldest state's object be used again for the next one. */
        private void makeRoom() {
            if (states.length == 0) {
                return;
            }
            House oldest = states[0];
            for (int place = 1; place < states.length; place++) {
                states[place - 1] = states[place];
            }
            states[states.length - 1] = oldest;
            count = states.length - 1;
        }
    }

    /** The text, and the orders that were read from it last. */
    private static final class Text {
        static final int KIND = 0;
        static final int FIRST = 1;
        static final int SECOND = 2;
        static final int THIRD = 3;
        static final int FOURTH = 4;
        static final int FIFTH = 5;

        private static final int END = -1;

        private final Table bytes;
        final Table orders;
        private int place;
        private int fault;

        Text() {
            bytes = new Table(MOST_BYTES, 1);
            orders = new Table(MOST_BYTES, FIFTH + 1);
            fault = NONE;
        }

        int length() {
            return bytes.rows();
        }

        boolean isFull() {
            return bytes.isFull();
        }

        void add(int value) {
            bytes.put(bytes.addRow(), 0, value);
        }

        void empty() {
            bytes.dropAll();
        }

        /** Reads the orders, and returns the syntax error position, or NONE. */
        int read() {
            place = 0;
            fault = NONE;
            orders.dropAll();
            for (int count = 0; count < MOST_BYTES && place < length() && fault == NONE; count++) {
                readOrder(orders.addRow());
            }
            return fault;
        }

        // Behind a fault the reading of an order goes on, as only the first fault is kept.
        private void readOrder(int order) {
            int kind = current();
            orders.put(order, KIND, kind);
            place++;
            switch (kind) {
                case 'g':
                    readGrant(order);
                    break;
                case 'v':
                    orders.put(order, FIRST, readNumber(3, 0, 999));
                    break;
                case 'c':
                    orders.put(order, FIRST, readDigit(0, 9));
                    orders.put(order, SECOND, readSign() * readNumber(3, 0, HIGHEST));
                    break;
                case 't':
                    orders.put(order, FIRST, readNumber(2, 1, 50));
                    break;
                default:
                    fail(place - 1);
                    break;
            }
            readByte(';');
        }

        private void readGrant(int order) {
            orders.put(order, FIRST, readDigit(0, PERSONS - 1));
            orders.put(order, SECOND, readDigit(0, PERSONS - 1));
            orders.put(order, THIRD, readDigit(0, MOST_THINGS - 1));
            orders.put(order, FOURTH, readDigit(1, ALL_RIGHTS));
            readByte(',');
            orders.put(order, FIFTH, readNumber(3, 0, HIGHEST));
        }

        private void readByte(int wanted) {
            if (current() != wanted) {
                fail(place);
            }
            place++;
        }

        private int readSign() {
            int sign = current() == '-' ? -1 : 1;
            if (current() != '+' && current() != '-') {
                fail(place);
            }
            place++;
            return sign;
        }

        private int readDigit(int least, int most) {
            int digit = current() - '0';
            if (!isBetween(digit, least, most)) {
                fail(place);
            }
            place++;
            return digit;
        }

        private int readNumber(int mostDigits, int least, int most) {
            int start = place;
            int number = 0;
            for (int digits = 0; digits < mostDigits && isDigit(current()); digits++) {
                number = 10 * number + current() - '0';
                place++;
            }
            if (place == start || isDigit(current())) {
                fail(place);
            } else if (!isBetween(number, least, most)) {
                fail(start);
            }
            return number;
        }

        private static boolean isDigit(int value) {
            return isBetween(value, '0', '9');
        }

        private int current() {
            return bytes.has(place) ? bytes.at(place, 0) : END;
        }

        private void fail(int where) {
            if (fault == NONE) {
                fault = where;
            }
        }
    }
}
