import java.util.Arrays;
import java.util.NoSuchElementException;

/** A tax that counts fireplaces; the document's promises are told by number at each call. */
public final class HearthMoney {
    public static final int NONE = -1;

    private static final int MOST_HOUSES = 6;
    private static final int MOST_HEARTHS = 12;
    private static final int MOST_OF_ONE_HOUSE = 6;
    private static final int MOST_TEXTS = 12;
    private static final int MOST_TOWERS = 5;
    private static final int MOST_FLUES = 10;
    private static final int MOST_RATE = 20;
    private static final int MOST_MONEY = 9999;
    private static final int MOST_QUARTER = 9999;
    private static final int MOST_AHEAD = 100;
    private static final int MOST_FOUND = 100;
    private static final int FOUND_WITHOUT_LAW = 30;
    private static final int FREE_WINDOWS = 6;
    private static final int SPAN_SEEDS = 6;

    private static final int FIRE = 0;
    private static final int OVEN = 1;
    private static final int FORGE = 2;
    private static final int POT = 3;

    private static final int OPEN = 0;
    private static final int WALLED = 1;
    private static final int HIDDEN = 2;

    private final Tape tape = new Tape();
    private final Parish now = new Parish();
    // Wrong texts, trials and looks ahead are worked out here, so that nothing of them stays.
    private final Parish draft = new Parish();
    private final Parish kept = new Parish();
    private final Past past = new Past();
    private final Sets sets = new Sets(now);
    private final ParishReader parishReader = new ParishReader(tape, draft);
    private final LawReader lawReader = new LawReader(tape);
    private boolean hasImage = false;
    private int wrongByte = NONE;

    /** Promise 1. */
    public HearthMoney() {
    }

    /** Promise 2. */
    public int feed(int a, int b, int c, int d, int e) {
        if (tape.length + Tape.FED > Tape.ROOM) {
            return NONE;
        }
        tape.put(a);
        tape.put(b);
        tape.put(c);
        tape.put(d);
        tape.put(e);
        return tape.length;
    }

    /** Promise 3. */
    public boolean end(int n) {
        if (n < 0 || n > tape.length) {
            return false;
        }
        tape.length = n;
        return true;
    }

    /** Promise 4. */
    public int parish() throws IllegalArgumentException, UnsupportedOperationException {
        draft.become(now);
        boolean right = parishReader.readLines();
        wrongByte = tape.wrong;
        tape.length = 0;
        if (!right) {
            throw new IllegalArgumentException("the text of the parish is wrong");
        }
        if (now.texts >= MOST_TEXTS) {
            throw new UnsupportedOperationException("there are 12 texts");
        }
        now.become(draft);
        now.texts++;
        past.forget();
        return now.texts;
    }

    /** Promise 5. */
    public int law() throws IllegalArgumentException {
        lawReader.clear();
        boolean right = lawReader.readLines();
        wrongByte = tape.wrong;
        tape.length = 0;
        if (!right) {
            throw new IllegalArgumentException("the text of the law is wrong");
        }
        Law told = lawReader.told();
        now.law = told;
        past.forget();
        return told.lines;
    }

    /** Promise 6. */
    public int fault() {
        return wrongByte;
    }

    /** Promise 7. */
    public int house(int house, int what) throws IndexOutOfBoundsException, NoSuchElementException {
        needHouse(house);
        House row = now.houses[house];
        switch (what) {
            case 0:
                return row.purse;
            case 1:
                return row.paper ? 1 : 0;
            case 2:
                return row.windows;
            case 3:
                return row.towers;
            case 4:
                return row.tells;
            case 5:
                return now.paysOf(house);
            case 6:
                return now.hopesOf(house);
            case 7:
                return now.warmthOf(house);
            case 8:
                return now.smokeOf(house);
            case 9:
                return now.shareOf(house);
            case 10:
                return now.bitsOf(house);
            default:
                throw new NoSuchElementException("a house has no such thing");
        }
    }

    /** Promise 8. */
    public int hearth(int hearth, int what) throws IndexOutOfBoundsException, NoSuchElementException {
        needHearth(hearth);
        Hearth row = now.hearths[hearth];
        switch (what) {
            case 0:
                return row.house;
            case 1:
                return row.kind;
            case 2:
                return row.flue;
            case 3:
                return row.warm;
            case 4:
                return row.wall;
            case 5:
                return row.state;
            case 6:
                return now.taxOf(hearth);
            case 7:
                return now.foundBy(hearth);
            default:
                throw new NoSuchElementException("a hearth has no such thing");
        }
    }

    /** Promise 9. */
    public int wall(int hearth) throws IndexOutOfBoundsException, IllegalStateException {
        needHearth(hearth);
        Hearth row = now.hearths[hearth];
        House owner = now.houses[row.house];
        if (row.state == WALLED || owner.purse < row.wall) {
            throw new IllegalStateException("it cannot be walled up");
        }
        past.remember(now);
        row.state = WALLED;
        owner.purse -= row.wall;
        return owner.purse;
    }

    /** Promise 10. */
    public int open(int hearth) throws IndexOutOfBoundsException, IllegalStateException {
        needHearth(hearth);
        Hearth row = now.hearths[hearth];
        if (row.state == OPEN) {
            throw new IllegalStateException("it is open");
        }
        past.remember(now);
        int was = row.state;
        row.state = OPEN;
        return was;
    }

    /** Promise 11. */
    public int hide(int hearth) throws IndexOutOfBoundsException, IllegalStateException {
        needHearth(hearth);
        Hearth row = now.hearths[hearth];
        House owner = now.houses[row.house];
        if (row.state != OPEN || owner.purse < now.bed) {
            throw new IllegalStateException("it cannot be hidden");
        }
        past.remember(now);
        row.state = HIDDEN;
        owner.purse -= now.bed;
        return owner.purse;
    }

    /** Promise 12. */
    public boolean paper(int house, boolean is) throws IndexOutOfBoundsException {
        needHouse(house);
        House row = now.houses[house];
        if (row.paper == is) {
            // No paper was given or taken away: that is no act.
            return false;
        }
        past.remember(now);
        row.paper = is;
        return true;
    }

    /** Promise 13. */
    public int flue(int hearth, int flue) throws IndexOutOfBoundsException {
        needHearth(hearth);
        if (flue < 0 || flue >= MOST_FLUES) {
            throw new IndexOutOfBoundsException("there is no such flue");
        }
        past.remember(now);
        Hearth row = now.hearths[hearth];
        int was = row.flue;
        row.flue = flue;
        return was;
    }

    /** Promise 14. */
    public int rate(int n) throws IllegalArgumentException {
        needNumber(n, 0, MOST_RATE);
        past.remember(now);
        int was = now.rate;
        now.rate = n;
        return was;
    }

    /** Promise 15. */
    public int give(int house, int n) throws IndexOutOfBoundsException, IllegalArgumentException {
        needHouse(house);
        needNumber(n, 1, 999);
        past.remember(now);
        House row = now.houses[house];
        row.purse = Math.min(MOST_MONEY, row.purse + n);
        return row.purse;
    }

    /** Promise 16. */
    public int quarters(int n) throws IllegalArgumentException {
        needNumber(n, 1, 60);
        past.remember(now);
        int paid = 0;
        for (int i = 0; i < n; i++) {
            paid += now.passQuarter(true);
        }
        return paid;
    }

    /** Promise 17. */
    public int stacks(int tower) throws IndexOutOfBoundsException {
        if (tower < 0 || tower >= MOST_TOWERS) {
            throw new IndexOutOfBoundsException("there is no such tower");
        }
        int smoking = 0;
        for (int i = 0; i < now.houseCount; i++) {
            if ((now.houses[i].towers >> tower & 1) == 1) {
                smoking += Integer.bitCount(now.smokeOf(i));
            }
        }
        return smoking;
    }

    /** Promise 18. */
    public int towers() {
        int best = NONE;
        for (int set = 0; set < 1 << MOST_TOWERS; set++) {
            boolean fewer = best == NONE || Integer.bitCount(set) < Integer.bitCount(best);
            if (fewer && now.isSeenFrom(set)) {
                best = set;
            }
        }
        return best;
    }

    /** Promise 19. */
    public int plan(int house, boolean much) throws IndexOutOfBoundsException {
        needHouse(house);
        sets.learnCharges();
        int walls = sets.bestWalls(house, now.rate);
        return much ? sets.worth : walls;
    }

    /** Promise 20. */
    public int brings(int rate) throws IllegalArgumentException {
        needNumber(rate, 0, MOST_RATE);
        sets.learnCharges();
        return sets.yieldBy(rate);
    }

    /** Promise 21. */
    public int dear() {
        sets.learnCharges();
        int best = 0;
        int most = NONE;
        for (int rate = 0; rate <= MOST_RATE; rate++) {
            int brought = sets.yieldBy(rate);
            if (brought > most) {
                most = brought;
                best = rate;
            }
        }
        return best;
    }

    /** Promise 22. */
    public int round(int n) throws IllegalArgumentException {
        needNumber(n, 0, MOST_HOUSES);
        int best = 0;
        int most = 0;
        for (int set = 1; set < 1 << now.houseCount; set++) {
            int size = Integer.bitCount(set);
            int hopes = size > n ? NONE : now.hopesOfSet(set);
            if (hopes > most || hopes == most && size < Integer.bitCount(best)) {
                most = hopes;
                best = set;
            }
        }
        return best;
    }

    /** Promise 23. */
    public int smokes(int house, boolean fewest) throws IndexOutOfBoundsException, IllegalArgumentException {
        needTold(house);
        return fewest ? sets.fewestBurnt(house) : sets.fittingWith(house, 0);
    }

    /** Promise 24. */
    public int look(int house) throws IndexOutOfBoundsException, IllegalArgumentException {
        needTold(house);
        int fitting = sets.fittingWith(house, 0);
        int best = NONE;
        int least = fitting;
        for (int i = 0; i < now.hearthCount; i++) {
            int burns = now.hearths[i].house == house ? sets.fittingWith(house, 1 << i) : 0;
            // One that burns in all or in none has all the sets as its greater part.
            int greater = Math.max(burns, fitting - burns);
            if (greater < least) {
                least = greater;
                best = i;
            }
        }
        return best;
    }

    /** Promise 25. */
    public int window(int house) throws IndexOutOfBoundsException {
        needHouse(house);
        return Math.max(0, now.houses[house].windows - FREE_WINDOWS) - now.paysOf(house);
    }

    /** Promise 26. */
    public int odds(int house) throws IndexOutOfBoundsException {
        needHouse(house);
        return now.visit * 100 + (100 - now.visit) * now.houses[house].tells;
    }

    /** Promise 27. */
    public int alike() {
        int pairs = 0;
        for (int i = 0; i < now.houseCount; i++) {
            for (int k = i + 1; k < now.houseCount; k++) {
                if (now.warmthOf(i) == now.warmthOf(k) && now.paysOf(i) == now.paysOf(k)) {
                    pairs++;
                }
            }
        }
        return pairs;
    }

    /** Promise 28. */
    public int coldest() {
        int best = NONE;
        int least = 0;
        for (int i = 0; i < now.houseCount; i++) {
            int warmth = now.warmthOf(i);
            if (best == NONE || warmth < least) {
                best = i;
                least = warmth;
            }
        }
        return best;
    }

    /** Promise 29. */
    public int broke(int house) throws IndexOutOfBoundsException {
        needHouse(house);
        draft.become(now);
        for (int n = 0; n <= MOST_AHEAD; n++) {
            if (draft.houses[house].purse == 0) {
                return n;
            }
            draft.passQuarter(false);
        }
        return NONE;
    }

    /** Promise 30. */
    public int game(int hearth) throws IndexOutOfBoundsException {
        needHearth(hearth);
        if (now.hearths[hearth].state == WALLED) {
            return NONE;
        }
        int tax = now.taxOf(hearth);
        int loss = now.foundBy(hearth) / 10 * (tax + now.fine) / 10;
        int[] pays = {now.bed + loss, now.bed, tax, tax};
        int[] has = {loss - 1, 0, tax - 1, tax};
        int steady = 0;
        for (int choice = 0; choice < 4; choice++) {
            if (pays[choice] <= pays[choice ^ 2] && has[choice] >= has[choice ^ 1]) {
                steady |= 1 << choice;
            }
        }
        return steady;
    }

    /** Promise 31. */
    public int crowd(int house) throws IndexOutOfBoundsException {
        needHouse(house);
        int best = NONE;
        int most = 0;
        for (int flue = 0; flue < MOST_FLUES; flue++) {
            int sharing = now.sharing(house, flue);
            if (sharing > most) {
                most = sharing;
                best = flue;
            }
        }
        return best;
    }

    /** Promise 32. */
    public int warmer(int house) throws IndexOutOfBoundsException {
        needHouse(house);
        sets.learnCharges();
        int best = NONE;
        int most = 0;
        for (int i = 0; i < now.hearthCount; i++) {
            Hearth row = now.hearths[i];
            int growth = row.house == house && row.state == WALLED ? sets.growthBy(i) : 0;
            if (growth > most) {
                most = growth;
                best = i;
            }
        }
        return best;
    }

    /** Promise 33. */
    public int first(int taken) throws IllegalArgumentException {
        needNumber(taken, 1, MOST_MONEY);
        draft.become(now);
        for (int n = 0; n <= MOST_AHEAD; n++) {
            if (draft.taken >= taken) {
                return n;
            }
            draft.passQuarter(false);
        }
        return NONE;
    }

    /** Promise 34. */
    public int free() {
        int bits = 0;
        for (int i = 0; i < now.hearthCount; i++) {
            if (now.hearths[i].state != WALLED && now.taxOf(i) == 0) {
                bits |= 1 << i;
            }
        }
        return bits;
    }

    /** Promise 35. */
    public int hidden() {
        return now.bitsIn(HIDDEN);
    }

    /** Promise 36. */
    public int cheapest() {
        int best = NONE;
        int bestWall = 0;
        int bestTax = 0;
        for (int i = 0; i < now.hearthCount; i++) {
            int wall = now.hearths[i].wall;
            int tax = now.taxOf(i);
            // A walled up one has no tax, so it drops out with the free ones.
            if (tax > 0 && (best == NONE || wall * bestTax < bestWall * tax)) {
                best = i;
                bestWall = wall;
                bestTax = tax;
            }
        }
        return best;
    }

    /** Promise 37. */
    public int least(int house, int x) throws IndexOutOfBoundsException, IllegalArgumentException {
        needHouse(house);
        needNumber(x, 0, 999);
        sets.learnCharges();
        return sets.fewestWalls(house, x);
    }

    /** Promise 38. */
    public int ahead(int house, int n) throws IndexOutOfBoundsException, IllegalArgumentException {
        needHouse(house);
        needNumber(n, 0, MOST_AHEAD);
        draft.become(now);
        for (int i = 0; i < n; i++) {
            draft.passQuarter(false);
        }
        return draft.houses[house].purse;
    }

    /** Promise 39. */
    public int trial(int n, boolean hidden) throws IllegalArgumentException {
        needNumber(n, 0, MOST_AHEAD);
        tryOut(n, now.seed);
        return hidden ? draft.bitsIn(HIDDEN) : draft.taken;
    }

    /** Promise 40. */
    public int span(int n, boolean most) throws IllegalArgumentException {
        needNumber(n, 0, MOST_AHEAD);
        int best = NONE;
        for (int seed = 1; seed <= SPAN_SEEDS; seed++) {
            tryOut(n, seed);
            if (best == NONE || (most ? draft.taken > best : draft.taken < best)) {
                best = draft.taken;
            }
        }
        return best;
    }

    /** Promise 41. */
    public int led(int house, boolean quarter) throws IndexOutOfBoundsException {
        needHouse(house);
        return quarter ? now.finds.latestOf(house) : now.finds.rowsOf(house);
    }

    /** Promise 42. */
    public int log(int ago, int what) throws NoSuchElementException {
        if (what < 0 || what >= Finds.COLUMNS) {
            throw new NoSuchElementException("a row of the log has no such thing");
        }
        return now.finds.cell(ago, what);
    }

    /** Promise 43. */
    public int seed(int n) {
        int was = now.seed;
        now.seed = n;
        return was;
    }

    /** Promise 44. */
    public boolean undo() {
        return past.recall(now);
    }

    /** Promise 45. */
    public void image() {
        kept.become(now);
        hasImage = true;
    }

    /** Promise 46. */
    public boolean back() {
        if (!hasImage) {
            return false;
        }
        now.become(kept);
        past.forget();
        return true;
    }

    /** Promise 47. */
    public int count(int what) {
        switch (what) {
            case 0:
                return now.houseCount;
            case 1:
                return now.hearthCount;
            case 2:
                return now.texts;
            case 3:
                return now.law == null ? NONE : now.law.lines;
            case 4:
                return now.quarter;
            case 5:
                return now.rate;
            case 6:
                return now.fine;
            case 7:
                return now.visit;
            case 8:
                return now.bed;
            case 9:
                return now.taken;
            case 10:
                return now.bitsIn(OPEN);
            case 11:
                return now.bitsIn(WALLED);
            case 12:
                return now.purses();
            case 13:
                return now.finds.size;
            case 14:
                return past.size;
            default:
                return NONE;
        }
    }

    private void needHouse(int house) {
        if (house < 0 || house >= now.houseCount) {
            throw new IndexOutOfBoundsException("there is no such house");
        }
    }

    private void needHearth(int hearth) {
        if (hearth < 0 || hearth >= now.hearthCount) {
            throw new IndexOutOfBoundsException("there is no such hearth");
        }
    }

    private void needNumber(int n, int low, int high) {
        if (n < low || n > high) {
            throw new IllegalArgumentException("the number is none");
        }
    }

    /** Uses the tape up, also where it throws. */
    private void needTold(int house) {
        boolean right = sets.readSmoke(tape);
        tape.length = 0;
        needHouse(house);
        if (!right) {
            throw new IllegalArgumentException("the tape does not tell flues");
        }
    }

    private void tryOut(int n, int seed) {
        draft.become(now);
        draft.seed = seed;
        for (int i = 0; i < n; i++) {
            draft.passQuarter(true);
        }
    }

    /** A HOUSE. */
    private static final class House {
        int purse;
        boolean paper;
        int windows;
        int towers;
        int tells;

        void become(House other) {
            purse = other.purse;
            paper = other.paper;
            windows = other.windows;
            towers = other.towers;
            tells = other.tells;
        }
    }

    /** A HEARTH. */
    private static final class Hearth {
        int house;
        int kind;
        int flue;
        int warm;
        int wall;
        int state;

        void become(Hearth other) {
            house = other.house;
            kind = other.kind;
            flue = other.flue;
            warm = other.warm;
            wall = other.wall;
            state = other.state;
        }
    }

    /** THE LOG: a ring of the latest rows. */
    private static final class Finds {
        static final int ROOM = 60;
        static final int COLUMNS = 4;
        private static final int QUARTER = 0;
        private static final int HEARTH = 1;
        private static final int HOUSE = 2;
        private static final int TAX = 3;

        private final int[][] cells = new int[COLUMNS][ROOM];
        private int next = 0;
        int size = 0;

        void add(int quarter, int hearth, int house, int tax) {
            cells[QUARTER][next] = quarter;
            cells[HEARTH][next] = hearth;
            cells[HOUSE][next] = house;
            cells[TAX][next] = tax;
            next = (next + 1) % ROOM;
            size = Math.min(ROOM, size + 1);
        }

        int cell(int ago, int column) {
            if (ago < 0 || ago >= size) {
                return NONE;
            }
            return cells[column][(next - 1 - ago + ROOM) % ROOM];
        }

        int rowsOf(int house) {
            int rows = 0;
            for (int ago = 0; ago < size; ago++) {
                if (cell(ago, HOUSE) == house) {
                    rows++;
                }
            }
            return rows;
        }

        int latestOf(int house) {
            for (int ago = 0; ago < size; ago++) {
                if (cell(ago, HOUSE) == house) {
                    return cell(ago, QUARTER);
                }
            }
            return NONE;
        }

        void become(Finds other) {
            for (int i = 0; i < COLUMNS; i++) {
                System.arraycopy(other.cells[i], 0, cells[i], 0, ROOM);
            }
            next = other.next;
            size = other.size;
        }
    }

    /** All that an act can be undone of and an image keeps. */
    private static final class Parish {
        final House[] houses = new House[MOST_HOUSES];
        final Hearth[] hearths = new Hearth[MOST_HEARTHS];
        final Finds finds = new Finds();
        int houseCount = 0;
        int hearthCount = 0;
        int texts = 0;
        int rate = 2;
        int fine = 5;
        int visit = 50;
        int bed = 1;
        int quarter = 0;
        int taken = 0;
        int seed = 1;
        // Null as long as no law was told. A law never changes, so that images may share it.
        Law law = null;

        Parish() {
            for (int i = 0; i < MOST_HOUSES; i++) {
                houses[i] = new House();
            }
            for (int i = 0; i < MOST_HEARTHS; i++) {
                hearths[i] = new Hearth();
            }
        }

        void become(Parish other) {
            for (int i = 0; i < MOST_HOUSES; i++) {
                houses[i].become(other.houses[i]);
            }
            for (int i = 0; i < MOST_HEARTHS; i++) {
                hearths[i].become(other.hearths[i]);
            }
            finds.become(other.finds);
            houseCount = other.houseCount;
            hearthCount = other.hearthCount;
            texts = other.texts;
            rate = other.rate;
            fine = other.fine;
            visit = other.visit;
            bed = other.bed;
            quarter = other.quarter;
            taken = other.taken;
            seed = other.seed;
            law = other.law;
        }

        /** HEARTHS of a HOUSE, as bits. */
        int bitsOf(int house) {
            int bits = 0;
            for (int i = 0; i < hearthCount; i++) {
                if (hearths[i].house == house) {
                    bits |= 1 << i;
                }
            }
            return bits;
        }

        /** HEARTHS of a STATE, as bits. */
        int bitsIn(int state) {
            int bits = 0;
            for (int i = 0; i < hearthCount; i++) {
                if (hearths[i].state == state) {
                    bits |= 1 << i;
                }
            }
            return bits;
        }

        /** How many HEARTHS of a HOUSE are not walled up. */
        int standing(int house) {
            return Integer.bitCount(bitsOf(house) & ~bitsIn(WALLED));
        }

        /** What the law puts on top of RATE, if so many of the HOUSE are not walled up; NONE, if it is free. */
        int charge(int hearth, int standing) {
            Hearth row = hearths[hearth];
            House owner = houses[row.house];
            if (law == null) {
                return owner.paper ? NONE : 0;
            }
            if (law.total(Law.FREE, row, owner, standing, quarter) > 0) {
                return NONE;
            }
            return law.total(Law.TAX, row, owner, standing, quarter);
        }

        /** TAX of a HEARTH that is not walled up. */
        static int taxBy(int rate, int charge) {
            return charge == NONE ? 0 : rate + charge;
        }

        int taxOf(int hearth) {
            Hearth row = hearths[hearth];
            return row.state == WALLED ? 0 : taxBy(rate, charge(hearth, standing(row.house)));
        }

        int foundBy(int hearth) {
            if (law == null) {
                return FOUND_WITHOUT_LAW;
            }
            Hearth row = hearths[hearth];
            int sum = law.total(Law.FIND, row, houses[row.house], standing(row.house), quarter);
            return Math.min(MOST_FOUND, sum);
        }

        int paysOf(int house) {
            int standing = standing(house);
            int pays = 0;
            for (int i = 0; i < hearthCount; i++) {
                if (hearths[i].house == house && hearths[i].state == OPEN) {
                    pays += taxBy(rate, charge(i, standing));
                }
            }
            return pays;
        }

        int hopesOf(int house) {
            int hundredths = 0;
            for (int i = 0; i < hearthCount; i++) {
                if (hearths[i].house == house && hearths[i].state == HIDDEN) {
                    hundredths += foundBy(i) * (taxOf(i) + fine);
                }
            }
            return hundredths / 100;
        }

        int hopesOfSet(int set) {
            int hopes = 0;
            for (int i = 0; i < houseCount; i++) {
                if ((set >> i & 1) == 1) {
                    hopes += hopesOf(i);
                }
            }
            return hopes;
        }

        int warmthOf(int house) {
            int warmth = 0;
            for (int i = 0; i < hearthCount; i++) {
                if (hearths[i].house == house && hearths[i].state != WALLED) {
                    warmth += hearths[i].warm;
                }
            }
            return warmth;
        }

        int smokeOf(int house) {
            int flues = 0;
            for (int i = 0; i < hearthCount; i++) {
                if (hearths[i].house == house && hearths[i].state != WALLED) {
                    flues |= 1 << hearths[i].flue;
                }
            }
            return flues;
        }

        int shareOf(int house) {
            int all = 0;
            for (int i = 0; i < houseCount; i++) {
                all += paysOf(i);
            }
            return all == 0 ? 0 : paysOf(house) * 100 / all;
        }

        boolean isSeenFrom(int towers) {
            for (int i = 0; i < houseCount; i++) {
                if (smokeOf(i) != 0 && (houses[i].towers & towers) == 0) {
                    return false;
                }
            }
            return true;
        }

        /** How many HEARTHS of a HOUSE have a FLUE. */
        int sharing(int house, int flue) {
            int sharing = 0;
            for (int i = 0; i < hearthCount; i++) {
                if (hearths[i].house == house && hearths[i].flue == flue) {
                    sharing++;
                }
            }
            return sharing;
        }

        int purses() {
            int sum = 0;
            for (int i = 0; i < houseCount; i++) {
                sum += houses[i].purse;
            }
            return sum;
        }

        /** A QUARTER more, in which men may come or none does: what was paid. */
        int passQuarter(boolean men) {
            int paid = 0;
            for (int i = 0; i < houseCount; i++) {
                House row = houses[i];
                int fines = men && manComes(row) ? searchedFor(i) : 0;
                int pay = Math.min(row.purse, paysOf(i) + fines);
                row.purse -= pay;
                taken = Math.min(MOST_MONEY, taken + pay);
                paid += pay;
            }
            quarter = Math.min(MOST_QUARTER, quarter + 1);
            return paid;
        }

        private boolean manComes(House row) {
            if (draw() % 100 < visit) {
                return true;
            }
            return draw() % 100 < row.tells;
        }

        /** A man looks for what is hidden in a HOUSE: the FINES. */
        private int searchedFor(int house) {
            int fines = 0;
            for (int i = 0; i < hearthCount; i++) {
                Hearth row = hearths[i];
                if (row.house == house && row.state == HIDDEN && draw() % 100 < foundBy(i)) {
                    row.state = OPEN;
                    fines += fine;
                    finds.add(quarter, i, house, taxOf(i));
                }
            }
            return fines;
        }

        private int draw() {
            seed = 1103515245 * seed + 12345;
            return seed >>> 16 & 0x7fff;
        }
    }

    /** ACTS that can be undone: a ring of how all was ahead of each. */
    private static final class Past {
        private static final int ROOM = 12;

        private final Parish[] states = new Parish[ROOM];
        private int next = 0;
        int size = 0;

        Past() {
            for (int i = 0; i < ROOM; i++) {
                states[i] = new Parish();
            }
        }

        void remember(Parish now) {
            states[next].become(now);
            next = (next + 1) % ROOM;
            size = Math.min(ROOM, size + 1);
        }

        /** Puts back how all was ahead of the latest act: whether there was one. */
        boolean recall(Parish now) {
            if (size == 0) {
                return false;
            }
            next = (next + ROOM - 1) % ROOM;
            size--;
            now.become(states[next]);
            return true;
        }

        void forget() {
            size = 0;
        }
    }

    /** Sets of a HOUSE's HEARTHS: which to wall up, and which may have burnt. */
    private static final class Sets {
        private static final int WIDTH = MOST_OF_ONE_HOUSE + 1;
        private static final int MOST_SMOKE_BYTES = 40;

        private final Parish parish;
        // By hearth and by how many of its house stand: a charge hangs on nothing else of a plan,
        // so that the law is asked once for each and not for every set and every rate.
        private final int[] charges = new int[MOST_HEARTHS * WIDTH];
        // How much the latest best walls are worth.
        int worth = 0;
        private int smoked = 0;
        private int clear = 0;

        Sets(Parish parish) {
            this.parish = parish;
        }

        void learnCharges() {
            for (int i = 0; i < parish.hearthCount; i++) {
                for (int standing = 0; standing < WIDTH; standing++) {
                    charges[i * WIDTH + standing] = parish.charge(i, standing);
                }
            }
        }

        /** PLAN of a HOUSE by a RATE, as bits; how much it is stands in worth. */
        int bestWalls(int house, int rate) {
            int open = openOf(house);
            int standing = parish.standing(house);
            int warmth = parish.warmthOf(house);
            int many = 1 << Integer.bitCount(open);
            int best = 0;
            int set = 0;
            for (int i = 0; i < many; i++) {
                int left = standing - Integer.bitCount(set);
                int much = 2 * (warmth - warmIn(set)) - paysWith(open & ~set, left, rate) - wallsIn(set);
                if (i == 0 || much > worth) {
                    worth = much;
                    best = set;
                }
                set = nextSet(set, open);
            }
            return best;
        }

        /** YIELD of a RATE. */
        int yieldBy(int rate) {
            int sum = 0;
            for (int i = 0; i < parish.houseCount; i++) {
                int walls = bestWalls(i, rate);
                int left = parish.standing(i) - Integer.bitCount(walls);
                sum += paysWith(openOf(i) & ~walls, left, rate);
            }
            return sum;
        }

        /** LEAST to x of a HOUSE, as bits. */
        int fewestWalls(int house, int x) {
            int open = openOf(house);
            int standing = parish.standing(house);
            int many = 1 << Integer.bitCount(open);
            // With all of them walled up nothing is paid.
            int best = open;
            int set = 0;
            for (int i = 0; i < many; i++) {
                int size = Integer.bitCount(set);
                if (size < Integer.bitCount(best) && paysWith(open & ~set, standing - size, parish.rate) <= x) {
                    best = set;
                }
                set = nextSet(set, open);
            }
            return best;
        }

        /** By how much twice WARMTH less PAYS grows, if a walled up HEARTH is opened. */
        int growthBy(int hearth) {
            Hearth row = parish.hearths[hearth];
            int open = openOf(row.house);
            int standing = parish.standing(row.house);
            int before = paysWith(open, standing, parish.rate);
            int after = paysWith(open | 1 << hearth, standing + 1, parish.rate);
            return 2 * row.warm - (after - before);
        }

        private int openOf(int house) {
            return parish.bitsOf(house) & parish.bitsIn(OPEN);
        }

        /** Of the sets of these bits, by size of their numbers, the one behind a set. */
        private static int nextSet(int set, int bits) {
            return (set - bits) & bits;
        }

        private int paysWith(int open, int standing, int rate) {
            int pays = 0;
            for (int i = 0; i < parish.hearthCount; i++) {
                if ((open >> i & 1) == 1 && standing >= 0 && standing < WIDTH) {
                    pays += Parish.taxBy(rate, charges[i * WIDTH + standing]);
                }
            }
            return pays;
        }

        private int warmIn(int set) {
            int warm = 0;
            for (int i = 0; i < parish.hearthCount; i++) {
                warm += (set >> i & 1) * parish.hearths[i].warm;
            }
            return warm;
        }

        private int wallsIn(int set) {
            int walls = 0;
            for (int i = 0; i < parish.hearthCount; i++) {
                walls += (set >> i & 1) * parish.hearths[i].wall;
            }
            return walls;
        }

        /** Whether the tape tells FLUES. One told twice is told once; told both ways, nothing fits. */
        boolean readSmoke(Tape tape) {
            smoked = 0;
            clear = 0;
            if (tape.length > MOST_SMOKE_BYTES || tape.length % 2 != 0) {
                return false;
            }
            for (int i = 0; i + 1 < tape.length; i += 2) {
                int flue = tape.bytes[i];
                int sign = tape.bytes[i + 1];
                if (flue >= MOST_FLUES || sign > 1) {
                    return false;
                }
                if (sign == 1) {
                    smoked |= 1 << flue;
                } else {
                    clear |= 1 << flue;
                }
            }
            return true;
        }

        /** How many of the sets that fit the smoke have all these HEARTHS. */
        int fittingWith(int house, int these) {
            int all = parish.bitsOf(house);
            int many = 1 << Integer.bitCount(all);
            int fitting = 0;
            int set = 0;
            for (int i = 0; i < many; i++) {
                if ((set & these) == these && fits(set)) {
                    fitting++;
                }
                set = nextSet(set, all);
            }
            return fitting;
        }

        /** FEWEST of the sets that fit the smoke; NONE. */
        int fewestBurnt(int house) {
            int all = parish.bitsOf(house);
            int many = 1 << Integer.bitCount(all);
            int fewest = NONE;
            int set = 0;
            for (int i = 0; i < many; i++) {
                int size = Integer.bitCount(set);
                if ((fewest == NONE || size < fewest) && fits(set)) {
                    fewest = size;
                }
                set = nextSet(set, all);
            }
            return fewest;
        }

        private boolean fits(int set) {
            int smoking = 0;
            for (int i = 0; i < parish.hearthCount; i++) {
                if ((set >> i & 1) == 1) {
                    smoking |= 1 << parish.hearths[i].flue;
                }
            }
            return (smoking & smoked) == smoked && (smoking & clear) == 0;
        }
    }

    /** THE LAW: its lines one behind another, each a head and its condition with the signs behind what they join. */
    private static final class Law {
        static final int TAX = 0;
        static final int FREE = 1;
        static final int FIND = 2;

        // A head: which line it is, its number, where the line ends.
        static final int HEAD = 3;

        // In a condition a number of 0 or more is itself; these are all the others.
        static final int PAPER = -2;
        static final int KIND_FIRE = -3;
        static final int KIND_OVEN = -4;
        static final int KIND_FORGE = -5;
        static final int KIND_POT = -6;
        static final int HOUSE = -7;
        static final int FLUE = -8;
        static final int WARM = -9;
        static final int HEARTHS = -10;
        static final int WINDOWS = -11;
        static final int QUARTER = -12;
        static final int NOT = -13;
        static final int PLUS = -14;
        static final int LESS = -15;
        static final int MORE = -16;
        static final int AND = -17;
        static final int OR = -18;

        // Six brackets deep each may leave an or and an and behind; a sum needs three more.
        private static final int STACK = 32;

        final int lines;
        private final int[] code;
        private final int[] stack = new int[STACK];
        // What each sign from PAPER to QUARTER tells of the present hearth, at the sign's number without its minus.
        private final int[] facts = new int[-QUARTER + 1];

        Law(int[] code, int lines) {
            this.code = code;
            this.lines = lines;
        }

        /** The numbers of all lines of one sort that hold, together (a free line's number is 1). */
        int total(int sort, Hearth hearth, House house, int standing, int quarter) {
            consider(hearth, house, standing, quarter);
            int sum = 0;
            int at = 0;
            for (int i = 0; i < lines && at + HEAD <= code.length; i++) {
                int end = Math.min(code.length, code[at + 2]);
                if (code[at] == sort && holds(at + HEAD, end)) {
                    sum += code[at + 1];
                }
                at = end;
            }
            return sum;
        }

        private void consider(Hearth hearth, House house, int standing, int quarter) {
            facts[-PAPER] = house.paper ? 1 : 0;
            facts[-KIND_FIRE] = hearth.kind == FIRE ? 1 : 0;
            facts[-KIND_OVEN] = hearth.kind == OVEN ? 1 : 0;
            facts[-KIND_FORGE] = hearth.kind == FORGE ? 1 : 0;
            facts[-KIND_POT] = hearth.kind == POT ? 1 : 0;
            facts[-HOUSE] = hearth.house;
            facts[-FLUE] = hearth.flue;
            facts[-WARM] = hearth.warm;
            facts[-HEARTHS] = standing;
            facts[-WINDOWS] = house.windows;
            facts[-QUARTER] = quarter;
        }

        /** Whether the condition from one place up to another holds; one without a sign always does. */
        private boolean holds(int from, int to) {
            int top = 0;
            for (int at = from; at < to; at++) {
                int sign = code[at];
                if (sign > NOT) {
                    if (top < STACK) {
                        stack[top] = sign >= 0 ? sign : facts[-sign];
                        top++;
                    }
                } else if (sign == NOT) {
                    if (top >= 1) {
                        stack[top - 1] = 1 - stack[top - 1];
                    }
                } else if (top >= 2) {
                    top--;
                    int left = stack[top - 1];
                    int right = stack[top];
                    switch (sign) {
                        case PLUS:
                            stack[top - 1] = left + right;
                            break;
                        case LESS:
                            stack[top - 1] = left < right ? 1 : 0;
                            break;
                        case MORE:
                            stack[top - 1] = left > right ? 1 : 0;
                            break;
                        case AND:
                            stack[top - 1] = left & right;
                            break;
                        default:
                            stack[top - 1] = left | right;
                            break;
                    }
                }
            }
            return top == 0 || stack[0] != 0;
        }
    }

    /** The TAPE, and the things (words, numbers, signs) of the text on it, one at a time. */
    private static final class Tape {
        static final int ROOM = 400;
        static final int FED = 20;

        static final int END = 0;
        static final int WORD = 1;
        static final int NUMBER = 2;
        static final int SIGN = 3;

        private static final int MOST_DIGITS = 3;
        // What a number of more digits counts as: beyond all bounds.
        private static final int TOO_LONG = 1000;

        final int[] bytes = new int[ROOM];
        int length = 0;
        int wrong = NONE;
        // The present thing: what it is, where it begins, where it ends, its number or its sign.
        int thing = END;
        private int begin = 0;
        private int after = 0;
        int value = 0;

        void put(int number) {
            for (int shift = 24; shift >= 0; shift -= 8) {
                if (length < ROOM) {
                    bytes[length] = number >>> shift & 0xff;
                    length++;
                }
            }
        }

        void rewind() {
            wrong = NONE;
            after = 0;
            next();
        }

        void next() {
            while (after < length && bytes[after] == ' ') {
                after++;
            }
            begin = after;
            value = 0;
            if (after >= length) {
                thing = END;
            } else if (bytes[after] >= 'a' && bytes[after] <= 'z') {
                thing = WORD;
                while (after < length && bytes[after] >= 'a' && bytes[after] <= 'z') {
                    after++;
                }
            } else if (bytes[after] >= '0' && bytes[after] <= '9') {
                thing = NUMBER;
                while (after < length && bytes[after] >= '0' && bytes[after] <= '9') {
                    value = after - begin < MOST_DIGITS ? value * 10 + bytes[after] - '0' : TOO_LONG;
                    after++;
                }
            } else {
                thing = SIGN;
                value = bytes[after];
                after++;
            }
        }

        boolean isWord(String word) {
            if (thing != WORD || after - begin != word.length()) {
                return false;
            }
            for (int i = 0; i < word.length(); i++) {
                if (bytes[begin + i] != word.charAt(i)) {
                    return false;
                }
            }
            return true;
        }

        boolean isSign(char sign) {
            return thing == SIGN && value == sign;
        }

        /** The present thing cannot stand there: false, for the caller to hand on. */
        boolean refuse() {
            wrong = begin;
            return false;
        }

        boolean takeWord(String word) {
            if (!isWord(word)) {
                return refuse();
            }
            next();
            return true;
        }

        boolean takeSign(char sign) {
            if (!isSign(sign)) {
                return refuse();
            }
            next();
            return true;
        }

        /** The present number; NONE, and it is wrong, if it is none within these bounds. */
        int takeNumber(int low, int high) {
            if (thing != NUMBER || value < low || value > high) {
                refuse();
                return NONE;
            }
            int number = value;
            next();
            return number;
        }
    }

    /** What texts have in common: lines with ; between them. */
    private abstract static class TextReader {
        final Tape tape;
        private final int mostLines;

        TextReader(Tape tape, int mostLines) {
            this.tape = tape;
            this.mostLines = mostLines;
        }

        /** Reads a line, whose first word is the present thing. */
        abstract boolean readLine();

        /** Whether the tape has lines alone, and not too many. */
        boolean readLines() {
            tape.rewind();
            if (tape.thing == Tape.END) {
                return true;
            }
            for (int i = 0; i < mostLines; i++) {
                if (tape.thing != Tape.WORD) {
                    return tape.refuse();
                }
                if (!readLine()) {
                    return false;
                }
                if (tape.thing == Tape.END) {
                    return true;
                }
                if (!tape.takeSign(';')) {
                    return false;
                }
            }
            return tape.refuse();
        }
    }

    /** Reads a text of THE PARISH into a draft. */
    private static final class ParishReader extends TextReader {
        private static final int MOST_LINES = 14;

        private final Parish draft;

        ParishReader(Tape tape, Parish draft) {
            super(tape, MOST_LINES);
            this.draft = draft;
        }

        boolean readLine() {
            if (tape.isWord("house")) {
                return readHouse();
            }
            if (tape.isWord("sees")) {
                return readSees();
            }
            if (tape.isWord("hearth")) {
                return readHearth();
            }
            return readSetting();
        }

        private boolean readHouse() {
            if (draft.houseCount >= MOST_HOUSES) {
                return tape.refuse();
            }
            House row = draft.houses[draft.houseCount];
            row.purse = numberAfter("house", 0, 999);
            if (row.purse == NONE) {
                return false;
            }
            row.windows = numberAfter("windows", 0, 30);
            if (row.windows == NONE) {
                return false;
            }
            row.towers = 0;
            row.tells = 0;
            row.paper = tape.isWord("paper");
            if (row.paper) {
                tape.next();
            }
            if (tape.isWord("tells")) {
                row.tells = numberAfter("tells", 0, 100);
                if (row.tells == NONE) {
                    return false;
                }
            }
            draft.houseCount++;
            return true;
        }

        private boolean readSees() {
            int tower = numberAfter("sees", 0, MOST_TOWERS - 1);
            if (tower == NONE) {
                return false;
            }
            int house = tape.takeNumber(0, draft.houseCount - 1);
            if (house == NONE) {
                return false;
            }
            draft.houses[house].towers |= 1 << tower;
            return true;
        }

        private boolean readHearth() {
            if (draft.hearthCount >= MOST_HEARTHS) {
                return tape.refuse();
            }
            Hearth row = draft.hearths[draft.hearthCount];
            tape.next();
            row.kind = presentKind();
            if (row.kind == NONE) {
                return tape.refuse();
            }
            tape.next();
            if (!tape.takeWord("of")) {
                return false;
            }
            row.house = roomyHouse();
            if (row.house == NONE) {
                return false;
            }
            row.flue = numberAfter("flue", 0, MOST_FLUES - 1);
            if (row.flue == NONE) {
                return false;
            }
            row.warm = numberAfter("warm", 1, 9);
            if (row.warm == NONE) {
                return false;
            }
            row.wall = numberAfter("wall", 1, 30);
            if (row.wall == NONE) {
                return false;
            }
            row.state = OPEN;
            draft.hearthCount++;
            return true;
        }

        private int presentKind() {
            if (tape.isWord("fire")) {
                return FIRE;
            }
            if (tape.isWord("oven")) {
                return OVEN;
            }
            if (tape.isWord("forge")) {
                return FORGE;
            }
            return tape.isWord("pot") ? POT : NONE;
        }

        /** Takes the number of a HOUSE that has room for one more HEARTH. */
        private int roomyHouse() {
            boolean full = tape.thing == Tape.NUMBER
                && Integer.bitCount(draft.bitsOf(tape.value)) >= MOST_OF_ONE_HOUSE;
            if (full) {
                tape.refuse();
                return NONE;
            }
            return tape.takeNumber(0, draft.houseCount - 1);
        }

        private boolean readSetting() {
            if (tape.isWord("rate")) {
                draft.rate = numberAfter("rate", 0, MOST_RATE);
                return draft.rate != NONE;
            }
            if (tape.isWord("fine")) {
                draft.fine = numberAfter("fine", 0, 50);
                return draft.fine != NONE;
            }
            if (tape.isWord("visit")) {
                draft.visit = numberAfter("visit", 0, 100);
                return draft.visit != NONE;
            }
            if (tape.isWord("bed")) {
                draft.bed = numberAfter("bed", 0, 20);
                return draft.bed != NONE;
            }
            if (tape.isWord("quarter")) {
                draft.quarter = numberAfter("quarter", 0, 999);
                return draft.quarter != NONE;
            }
            return tape.refuse();
        }

        /** Takes a word and the number behind it; NONE, if one of them is wrong. */
        private int numberAfter(String word, int low, int high) {
            if (!tape.takeWord(word)) {
                return NONE;
            }
            return tape.takeNumber(low, high);
        }
    }

    /** Reads the text of THE LAW. */
    private static final class LawReader extends TextReader {
        private static final int MOST_LINES = 12;
        private static final int DEEPEST = 6;

        // No thing of a text leaves more than one number, and no head more than its line has bytes.
        private final int[] code = new int[Tape.ROOM];
        private int used = 0;
        private int lines = 0;

        LawReader(Tape tape) {
            super(tape, MOST_LINES);
        }

        void clear() {
            used = 0;
            lines = 0;
        }

        /** The law of the latest text, which was right. */
        Law told() {
            return new Law(Arrays.copyOf(code, used), lines);
        }

        boolean readLine() {
            int sort = presentSort();
            if (sort == NONE) {
                return tape.refuse();
            }
            tape.next();
            int number = sort == Law.FREE ? 1 : tape.takeNumber(0, 99);
            if (number == NONE) {
                return false;
            }
            put(sort);
            put(number);
            int end = used;
            put(0);
            if (tape.isWord("if")) {
                tape.next();
                if (!readCondition(0)) {
                    return false;
                }
            }
            if (end < code.length) {
                code[end] = used;
            }
            lines++;
            return true;
        }

        private int presentSort() {
            if (tape.isWord("tax")) {
                return Law.TAX;
            }
            if (tape.isWord("free")) {
                return Law.FREE;
            }
            return tape.isWord("find") ? Law.FIND : NONE;
        }

        private void put(int sign) {
            if (used < code.length) {
                code[used] = sign;
                used++;
            }
        }

        /** C, with its ALLs: ATOMS with and or or between them, where and binds closer. */
        private boolean readCondition(int depth) {
            boolean or = false;
            boolean and = false;
            for (int i = 0; i < Tape.ROOM; i++) {
                if (!readAtom(depth)) {
                    return false;
                }
                if (and) {
                    put(Law.AND);
                }
                and = tape.isWord("and");
                if (!and) {
                    if (or) {
                        put(Law.OR);
                    }
                    or = tape.isWord("or");
                    if (!or) {
                        return true;
                    }
                }
                tape.next();
            }
            return tape.refuse();
        }

        private boolean readAtom(int depth) {
            boolean not = tape.isWord("not");
            if (not || tape.isSign('(')) {
                if (depth >= DEEPEST) {
                    return tape.refuse();
                }
                tape.next();
                if (!not) {
                    return readCondition(depth + 1) && tape.takeSign(')');
                }
                if (!readAtom(depth + 1)) {
                    return false;
                }
                put(Law.NOT);
                return true;
            }
            int truth = presentTruth();
            if (truth == NONE) {
                return readComparison();
            }
            put(truth);
            tape.next();
            return true;
        }

        private int presentTruth() {
            if (tape.isWord("paper")) {
                return Law.PAPER;
            }
            if (tape.isWord("fire")) {
                return Law.KIND_FIRE;
            }
            if (tape.isWord("oven")) {
                return Law.KIND_OVEN;
            }
            if (tape.isWord("forge")) {
                return Law.KIND_FORGE;
            }
            return tape.isWord("pot") ? Law.KIND_POT : NONE;
        }

        private boolean readComparison() {
            if (!readSum()) {
                return false;
            }
            boolean less = tape.isSign('<');
            if (!less && !tape.isSign('>')) {
                return tape.refuse();
            }
            tape.next();
            if (!readSum()) {
                return false;
            }
            put(less ? Law.LESS : Law.MORE);
            return true;
        }

        private boolean readSum() {
            for (int i = 0; i < Tape.ROOM; i++) {
                if (tape.thing == Tape.NUMBER && tape.value <= 999) {
                    put(tape.value);
                } else if (tape.isWord("house")) {
                    put(Law.HOUSE);
                } else if (tape.isWord("flue")) {
                    put(Law.FLUE);
                } else if (tape.isWord("warm")) {
                    put(Law.WARM);
                } else if (tape.isWord("hearths")) {
                    put(Law.HEARTHS);
                } else if (tape.isWord("windows")) {
                    put(Law.WINDOWS);
                } else if (tape.isWord("quarter")) {
                    put(Law.QUARTER);
                } else {
                    return tape.refuse();
                }
                tape.next();
                if (i > 0) {
                    put(Law.PLUS);
                }
                if (!tape.isSign('+')) {
                    return true;
                }
                tape.next();
            }
            return tape.refuse();
        }
    }
}
