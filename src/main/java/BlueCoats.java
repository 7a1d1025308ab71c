import java.util.NoSuchElementException;

/** A school in blue coats: its statutes, givers, children, coats and legacies. */
public final class BlueCoats {
    public static final int NONE = -1;

    private static final int NOT_SO_MANY = -2;
    private static final int FED_AT_ONCE = 20;

    private static final int TURN = 0;
    private static final int VOTE = 1;
    private static final int NEED = 2;

    private static final int WAITING = 0;
    private static final int IN = 1;
    private static final int BOUND = 2;

    private final Reader reader;
    private final Statutes law;
    private final Givers givers;
    private final Children children;
    private final Wardrobe wardrobe;
    private final Dressing dressing;
    private final Chest chest;
    private int years;

    public BlueCoats() {
        reader = new Reader();
        law = new Statutes();
        givers = new Givers();
        children = new Children();
        wardrobe = new Wardrobe();
        dressing = new Dressing();
        chest = new Chest();
        years = 0;
    }

    public int feed(int a, int b, int c, int d, int e) {
        if (reader.taped + FED_AT_ONCE > Reader.TAPE_LENGTH) {
            return NONE;
        }
        reader.append(a);
        reader.append(b);
        reader.append(c);
        reader.append(d);
        reader.append(e);
        return reader.taped;
    }

    public int statutes(int n) {
        if (n < 0 || n > reader.taped) {
            return NOT_SO_MANY;
        }
        int lines = reader.read(n);
        if (lines != NONE) {
            law.takeOver(reader.draft);
        }
        return lines;
    }

    public int fault(int what) {
        switch (what) {
            case 0:
                return reader.fault;
            case 1:
                return reader.faultPlace;
            default:
                return NONE;
        }
    }

    public int giver() {
        return givers.add();
    }

    public int gift(int giver, int coins) {
        if (!givers.has(giver) || coins < 1) {
            return NONE;
        }
        return givers.take(giver, coins);
    }

    public boolean support(int giver, int child) {
        if (!givers.has(giver) || (child != NONE && !children.has(child))) {
            return false;
        }
        givers.supported[giver] = child;
        return true;
    }

    public int child(int age, int need, int size, int growth) {
        return children.add(age, need, size, growth);
    }

    public int fill() {
        if (children.in() >= law.places) {
            return NONE;
        }
        int chosen = chosenBy(law.wayNext());
        if (children.has(chosen)) {
            children.state[chosen] = IN;
            law.goOn();
        }
        return chosen;
    }

    private int chosenBy(int way) {
        switch (way) {
            case TURN:
                return chosenByTurn();
            case VOTE:
                return chosenByVote();
            default:
                return chosenByNeed();
        }
    }

    private int chosenByTurn() {
        int giver = givers.next;
        for (int i = 0; i < givers.number; i++) {
            int child = givers.childOf(giver);
            int behind = giver + 1 < givers.number ? giver + 1 : 0;
            if (mayCome(child)) {
                givers.next = behind;
                return child;
            }
            giver = behind;
        }
        return NONE;
    }

    private int chosenByVote() {
        int best = NONE;
        int most = 0;
        for (int child = 0; child < children.number; child++) {
            if (!mayCome(child)) {
                continue;
            }
            int votes = givers.votesFor(child, law.vote);
            boolean needier = best != NONE && votes == most
                    && children.need[child] > children.need[best];
            // most is 0 before anyone is found, so a child without a vote never comes
            if (votes > most || needier) {
                best = child;
                most = votes;
            }
        }
        return best;
    }

    private int chosenByNeed() {
        int best = NONE;
        for (int child = 0; child < children.number; child++) {
            if (mayCome(child) && (best == NONE || children.need[child] > children.need[best])) {
                best = child;
            }
        }
        return best;
    }

    private boolean mayCome(int child) {
        return children.has(child) && children.state[child] == WAITING
                && children.age[child] >= law.ageFrom && children.age[child] < law.ageTo;
    }

    public int year() {
        years++;
        int bound = 0;
        for (int child = 0; child < children.number; child++) {
            children.grow(child);
            if (children.state[child] == IN && children.age[child] >= law.ageTo) {
                children.state[child] = BOUND;
                handIn(children.coat[child]);
                bound++;
            }
        }
        for (int coat = 0; coat < wardrobe.number; coat++) {
            if (wardrobe.wearOut(coat, law.wear)) {
                handIn(coat);
            }
        }
        return bound;
    }

    private void handIn(int coat) {
        if (!wardrobe.has(coat)) {
            return;
        }
        int child = wardrobe.wearer[coat];
        wardrobe.wearer[coat] = NONE;
        if (children.has(child)) {
            children.coat[child] = NONE;
        }
    }

    private void handOut(int coat, int child) {
        if (wardrobe.has(coat) && children.has(child)) {
            wardrobe.wearer[coat] = child;
            children.coat[child] = coat;
        }
    }

    public int feast() {
        dressing.plan(children, wardrobe, law.spare);
        if (wardrobe.number + dressing.newCoats() > Wardrobe.MOST) {
            return NONE;
        }
        for (int coat = 0; coat < wardrobe.number; coat++) {
            handIn(coat);
        }
        int cloth = 0;
        for (int guest = 0; guest < dressing.guests; guest++) {
            int child = dressing.guest[guest];
            int coat = dressing.given[guest];
            if (coat == NONE) {
                coat = wardrobe.cut(children.size[child]);
                cloth += children.size[child];
            }
            handOut(coat, child);
        }
        return cloth;
    }

    public int legacy(int coins, int ends) {
        return chest.add(coins, ends);
    }

    public boolean need(int end, int coins) {
        if (end < 0 || end >= Chest.ENDS || coins < 0 || coins > Chest.MOST_COINS) {
            return false;
        }
        chest.need[end] = coins;
        return true;
    }

    public int owed(int what, int k) {
        chest.plan();
        switch (what) {
            case 0:
                return k >= 0 && k < Chest.ENDS ? chest.toEnd[k] : NONE;
            case 1:
                return k >= 0 && k < chest.number ? chest.fromLegacy[k] : NONE;
            case 2:
                return chest.shortfall;
            case 3:
                return chest.proof;
            default:
                return NONE;
        }
    }

    public int pay() {
        chest.plan();
        return chest.payPlanned();
    }

    public int look(int child, int what) throws IndexOutOfBoundsException, NoSuchElementException {
        if (!children.has(child)) {
            throw new IndexOutOfBoundsException("no such child");
        }
        switch (what) {
            case 0:
                return children.age[child];
            case 1:
                return children.need[child];
            case 2:
                return children.size[child];
            case 3:
                return children.state[child];
            case 4:
                return children.coat[child];
            case 5:
                return givers.votesFor(child, law.vote);
            default:
                throw new NoSuchElementException("no such what");
        }
    }

    public int coat(int coat, int what) {
        if (!wardrobe.has(coat)) {
            return NONE;
        }
        switch (what) {
            case 0:
                return wardrobe.size[coat];
            case 1:
                return wardrobe.worn[coat];
            case 2:
                return wardrobe.gone[coat] ? 1 : 0;
            case 3:
                return wardrobe.wearer[coat];
            default:
                return NONE;
        }
    }

    public int count(int what) {
        switch (what) {
            case 0:
                return givers.number;
            case 1:
                return children.number;
            case 2:
                return children.in();
            case 3:
                return wardrobe.number;
            case 4:
                return chest.number;
            case 5:
                return givers.next;
            case 6:
                return law.wayNext();
            case 7:
                return years;
            default:
                return NONE;
        }
    }

    /** What the statutes say, and which way of filling a place is next. */
    private static final class Statutes {
        static final int MOST_WAYS = 8;

        final int[] cycle = new int[MOST_WAYS];
        int ways;
        int next;
        int vote;
        int ageFrom;
        int ageTo;
        int wear;
        int spare;
        int places;

        Statutes() {
            sayNothing();
        }

        /** What holds where a text has no line about it. */
        void sayNothing() {
            cycle[0] = NEED;
            ways = 1;
            next = 0;
            vote = 100;
            ageFrom = 7;
            ageTo = 14;
            wear = 3;
            spare = 1;
            places = 8;
        }

        void takeOver(Statutes other) {
            System.arraycopy(other.cycle, 0, cycle, 0, MOST_WAYS);
            ways = other.ways;
            next = 0;
            vote = other.vote;
            ageFrom = other.ageFrom;
            ageTo = other.ageTo;
            wear = other.wear;
            spare = other.spare;
            places = other.places;
        }

        int wayNext() {
            return next >= 0 && next < MOST_WAYS ? cycle[next] : NEED;
        }

        void goOn() {
            next = next + 1 < ways ? next + 1 : 0;
        }
    }

    /** The tape, and how its text is read as statutes, up to the first fault. */
    private static final class Reader {
        static final int TAPE_LENGTH = 300;

        private static final int END = 0;
        private static final int WORD = 1;
        private static final int NUMBER = 2;
        private static final int STOP = 3;
        private static final int OTHER = 4;

        private static final int CYCLE_LINE = 0;
        private static final int VOTE_LINE = 1;
        private static final int AGE_LINE = 2;
        private static final int WEAR_LINE = 3;
        private static final int SPARE_LINE = 4;
        private static final int PLACES_LINE = 5;

        private static final int MISPLACED = 1;
        private static final int BEYOND = 2;
        private static final int TOLD_ALREADY = 3;

        /** Above every bound of a number, and far from where ten times as much would wrap. */
        private static final int HUGE = 100000;

        final Statutes draft = new Statutes();
        int fault = 0;
        int faultPlace = NONE;
        int taped;

        private final byte[] tape = new byte[TAPE_LENGTH];
        private int length;
        private int kind;
        private int start;
        private int end;
        private int value;
        private int told;

        /** Four bytes more, the highest first. */
        void append(int four) {
            for (int shift = 24; shift >= 0; shift -= 8) {
                if (taped < TAPE_LENGTH) {
                    tape[taped] = (byte) (four >>> shift);
                    taped++;
                }
            }
        }

        /** How many lines the tape's first n bytes are, or NONE with a fault; the tape is empty then. */
        int read(int n) {
            length = Math.min(n, taped);
            taped = 0;
            end = 0;
            told = 0;
            fault = 0;
            faultPlace = NONE;
            draft.sayNothing();
            advance();
            int lines = 0;
            while (kind != END && fault == 0 && lines < length) {
                readRest(begunLine());
                endLine();
                lines++;
            }
            return fault == 0 ? lines : NONE;
        }

        private void blame(int what) {
            fault = what;
            faultPlace = start;
        }

        /** The line whose first word stands here; NONE with a fault. */
        private int begunLine() {
            int line = lineNamed();
            if (line == NONE) {
                blame(MISPLACED);
                return NONE;
            }
            if ((told & (1 << line)) != 0) {
                blame(TOLD_ALREADY);
                return NONE;
            }
            told |= 1 << line;
            advance();
            return line;
        }

        private void endLine() {
            if (fault != 0) {
                return;
            }
            if (kind == STOP) {
                advance();
            } else {
                blame(MISPLACED);
            }
        }

        private void readRest(int line) {
            switch (line) {
                case CYCLE_LINE:
                    readWays();
                    break;
                case VOTE_LINE:
                    draft.vote = readNumber(1, 9999);
                    break;
                case AGE_LINE:
                    readAges();
                    break;
                case WEAR_LINE:
                    draft.wear = readNumber(1, 9);
                    break;
                case SPARE_LINE:
                    draft.spare = readNumber(0, 9);
                    break;
                case PLACES_LINE:
                    draft.places = readNumber(1, 8);
                    break;
                default:
                    break;
            }
        }

        private void readWays() {
            if (wayNamed() == NONE) {
                blame(MISPLACED);
                return;
            }
            draft.ways = 0;
            for (int i = 0; i < Statutes.MOST_WAYS && wayNamed() != NONE; i++) {
                draft.cycle[i] = wayNamed();
                draft.ways++;
                advance();
            }
            if (wayNamed() != NONE) {
                blame(BEYOND);
            }
        }

        private void readAges() {
            draft.ageFrom = readNumber(0, 20);
            if (fault == 0) {
                draft.ageTo = readNumber(draft.ageFrom, 20);
            }
        }

        /** The number that stands here; with a fault, one that nobody uses. */
        private int readNumber(int least, int most) {
            if (kind != NUMBER) {
                blame(MISPLACED);
                return least;
            }
            if (value < least || value > most) {
                blame(BEYOND);
                return least;
            }
            int number = value;
            advance();
            return number;
        }

        private int lineNamed() {
            if (isWord("cycle")) {
                return CYCLE_LINE;
            }
            if (isWord("vote")) {
                return VOTE_LINE;
            }
            if (isWord("age")) {
                return AGE_LINE;
            }
            if (isWord("wear")) {
                return WEAR_LINE;
            }
            if (isWord("spare")) {
                return SPARE_LINE;
            }
            return isWord("places") ? PLACES_LINE : NONE;
        }

        private int wayNamed() {
            if (isWord("turn")) {
                return TURN;
            }
            if (isWord("vote")) {
                return VOTE;
            }
            return isWord("need") ? NEED : NONE;
        }

        private boolean isWord(String word) {
            if (kind != WORD || end - start != word.length()) {
                return false;
            }
            for (int i = 0; i < word.length(); i++) {
                if (signAt(start + i) != word.charAt(i)) {
                    return false;
                }
            }
            return true;
        }

        /** Goes on to the next token; behind the last one stands END, at the text's length. */
        private void advance() {
            start = end;
            while (start < length && isBlank(signAt(start))) {
                start++;
            }
            end = start;
            if (start >= length) {
                kind = END;
                return;
            }
            int sign = signAt(start);
            if (isLetter(sign)) {
                kind = WORD;
                while (end < length && isLetter(signAt(end))) {
                    end++;
                }
            } else if (isDigit(sign)) {
                kind = NUMBER;
                scanDigits();
            } else {
                kind = sign == ';' ? STOP : OTHER;
                end = start + 1;
            }
        }

        private void scanDigits() {
            value = 0;
            while (end < length && isDigit(signAt(end))) {
                value = Math.min(HUGE, value * 10 + signAt(end) - '0');
                end++;
            }
        }

        private int signAt(int place) {
            return place >= 0 && place < length ? tape[place] & 255 : 0;
        }

        private static boolean isBlank(int sign) {
            return sign == 10 || sign == 32;
        }

        private static boolean isLetter(int sign) {
            return sign >= 'a' && sign <= 'z';
        }

        private static boolean isDigit(int sign) {
            return sign >= '0' && sign <= '9';
        }
    }

    /** The roll of givers. */
    private static final class Givers {
        private static final int MOST = 8;
        private static final int MOST_GIVEN = 99999;

        final int[] gave = new int[MOST];
        final int[] supported = new int[MOST];
        int number;
        int next;

        boolean has(int giver) {
            return giver >= 0 && giver < number;
        }

        int add() {
            if (number >= MOST) {
                return NONE;
            }
            gave[number] = 0;
            supported[number] = NONE;
            number++;
            return number - 1;
        }

        int take(int giver, int coins) {
            if (!has(giver) || coins > MOST_GIVEN - gave[giver]) {
                return NONE;
            }
            gave[giver] += coins;
            return gave[giver];
        }

        int childOf(int giver) {
            return has(giver) ? supported[giver] : NONE;
        }

        /** Each giver's votes are cut on their own: what two of them have left makes no vote. */
        int votesFor(int child, int price) {
            int votes = 0;
            for (int giver = 0; giver < number; giver++) {
                if (supported[giver] == child && price > 0) {
                    votes += gave[giver] / price;
                }
            }
            return votes;
        }
    }

    /** The children, a row for each thing that is known of them. */
    private static final class Children {
        private static final int MOST = 16;
        private static final int OLDEST = 99;
        private static final int GREATEST = 99;

        final int[] age = new int[MOST];
        final int[] need = new int[MOST];
        final int[] size = new int[MOST];
        final int[] growth = new int[MOST];
        final int[] state = new int[MOST];
        final int[] coat = new int[MOST];
        int number;

        boolean has(int child) {
            return child >= 0 && child < number;
        }

        int add(int itsAge, int itsNeed, int itsSize, int itsGrowth) {
            if (number >= MOST || !canBe(itsAge, itsNeed, itsSize, itsGrowth)) {
                return NONE;
            }
            age[number] = itsAge;
            need[number] = itsNeed;
            size[number] = itsSize;
            growth[number] = itsGrowth;
            state[number] = WAITING;
            coat[number] = NONE;
            number++;
            return number - 1;
        }

        private static boolean canBe(int itsAge, int itsNeed, int itsSize, int itsGrowth) {
            return itsAge >= 0 && itsAge <= 20 && itsNeed >= 0 && itsNeed <= 99
                    && itsSize >= 10 && itsSize <= 60 && itsGrowth >= 0 && itsGrowth <= 4;
        }

        int in() {
            int found = 0;
            for (int child = 0; child < number; child++) {
                if (state[child] == IN) {
                    found++;
                }
            }
            return found;
        }

        void grow(int child) {
            if (has(child)) {
                age[child] = Math.min(OLDEST, age[child] + 1);
                size[child] = Math.min(GREATEST, size[child] + growth[child]);
            }
        }
    }

    /** All coats that were ever cut. */
    private static final class Wardrobe {
        static final int MOST = 40;

        final int[] size = new int[MOST];
        final int[] worn = new int[MOST];
        final boolean[] gone = new boolean[MOST];
        final int[] wearer = new int[MOST];
        int number;

        boolean has(int coat) {
            return coat >= 0 && coat < number;
        }

        int cut(int itsSize) {
            if (number >= MOST) {
                return NONE;
            }
            size[number] = itsSize;
            worn[number] = 0;
            gone[number] = false;
            wearer[number] = NONE;
            number++;
            return number - 1;
        }

        /** A year more on a coat, on a gone one too: whether it is gone now. */
        boolean wearOut(int coat, int mostYears) {
            if (!has(coat)) {
                return false;
            }
            worn[coat]++;
            if (worn[coat] >= mostYears) {
                gone[coat] = true;
            }
            return gone[coat];
        }

        /** The coats that fit a size, as bits. */
        long fitting(int itsSize, int spare) {
            long coats = 0;
            for (int coat = 0; coat < number; coat++) {
                if (!gone[coat] && size[coat] >= itsSize && size[coat] <= itsSize + spare) {
                    coats |= 1L << coat;
                }
            }
            return coats;
        }
    }

    /**
     * Who gets which coat at a feast. The guests are the children in the school, in order; sets of
     * guests are bits. By Hall's theorem a set of guests can have an old coat each just if no part
     * of it has more guests than coats that fit one of them at least; such a part is tight if it
     * has as many.
     */
    private static final class Dressing {
        private static final int MOST = 8;

        final int[] guest = new int[MOST];
        final int[] given = new int[MOST];
        int guests;

        private final int[] size = new int[MOST];
        private final long[] fitting = new long[1 << MOST];
        private int dressed;

        void plan(Children children, Wardrobe wardrobe, int spare) {
            gather(children);
            measure(wardrobe, spare);
            chooseDressed();
            chooseCoats();
        }

        int newCoats() {
            return guests - Integer.bitCount(dressed);
        }

        private void gather(Children children) {
            guests = 0;
            for (int child = 0; child < children.number && guests < MOST; child++) {
                if (children.state[child] == IN) {
                    guest[guests] = child;
                    size[guests] = children.size[child];
                    guests++;
                }
            }
        }

        private void measure(Wardrobe wardrobe, int spare) {
            fitting[0] = 0;
            for (int i = 0; i < guests; i++) {
                long coats = wardrobe.fitting(size[i], spare);
                for (int others = 0; others < 1 << i; others++) {
                    fitting[others | (1 << i)] = fitting[others] | coats;
                }
            }
        }

        /**
         * The greatest come first, of like ones the least number. What sets can be dressed is a
         * matroid, so to take each who can still be taken saves the most cloth, and of like sets
         * finds the one with the least numbers.
         */
        private void chooseDressed() {
            dressed = 0;
            int seen = 0;
            for (int i = 0; i < guests; i++) {
                int greatest = greatestBut(seen);
                seen |= 1 << greatest;
                if (canDress(dressed | (1 << greatest))) {
                    dressed |= 1 << greatest;
                }
            }
        }

        private int greatestBut(int seen) {
            int greatest = 0;
            int itsSize = NONE;
            for (int i = 0; i < guests; i++) {
                if ((seen & (1 << i)) == 0 && size[i] > itsSize) {
                    greatest = i;
                    itsSize = size[i];
                }
            }
            return greatest;
        }

        private boolean canDress(int set) {
            for (int part = 1; part < 1 << guests; part++) {
                if ((part & ~set) == 0 && Long.bitCount(fitting[part]) < Integer.bitCount(part)) {
                    return false;
                }
            }
            return true;
        }

        private void chooseCoats() {
            long free = fitting[(1 << guests) - 1];
            for (int i = 0; i < guests; i++) {
                given[i] = NONE;
                if ((dressed & (1 << i)) != 0) {
                    int behind = dressed & -(2 << i);
                    long open = fitting[1 << i] & free & ~neededBy(behind, free);
                    given[i] = leastOf(open);
                    free &= ~(open & -open);
                }
            }
        }

        /** The free coats that a set of guests can't spare: those that fit a tight part of it. */
        private long neededBy(int set, long free) {
            long needed = 0;
            for (int part = 1; part < 1 << guests; part++) {
                long coats = fitting[part] & free;
                if ((part & ~set) == 0 && Long.bitCount(coats) <= Integer.bitCount(part)) {
                    needed |= coats;
                }
            }
            return needed;
        }

        private static int leastOf(long coats) {
            for (int coat = 0; coat < Wardrobe.MOST; coat++) {
                if ((coats & (1L << coat)) != 0) {
                    return coat;
                }
            }
            return NONE;
        }
    }

    /**
     * Legacies, needs and how they would be paid. The lack of a set of ends is what they are to
     * get less the coins that may pay one of them; the greatest lack can't be paid, and all but
     * it can (the least cut is the greatest flow).
     */
    private static final class Chest {
        static final int ENDS = 6;
        static final int MOST_COINS = 9999;
        private static final int MOST = 8;
        private static final int SETS = 1 << ENDS;

        final int[] need = new int[ENDS];
        final int[] toEnd = new int[ENDS];
        final int[] fromLegacy = new int[MOST];
        int number;
        int shortfall;
        int proof;

        private final int[] coins = new int[MOST];
        private final int[] ends = new int[MOST];
        private final int[] lack = new int[SETS];

        int add(int itsCoins, int itsEnds) {
            if (number >= MOST || itsCoins < 0 || itsCoins > MOST_COINS
                    || itsEnds < 0 || itsEnds >= SETS) {
                return NONE;
            }
            coins[number] = itsCoins;
            ends[number] = itsEnds;
            number++;
            return number - 1;
        }

        void plan() {
            planEnds();
            planLegacies();
        }

        /** Each end gets what the ends up to it can be paid in all, less what those before it get. */
        private void planEnds() {
            setLack(need);
            for (int i = 0; i < number; i++) {
                lessenLack(i);
            }
            shortfall = 0;
            proof = 0;
            int needs = 0;
            int paidBefore = 0;
            for (int end = 0; end < ENDS; end++) {
                needs += need[end];
                // the sets that have this end as their highest; over all ends they come by number
                for (int set = 1 << end; set < 2 << end; set++) {
                    if (lack[set] > shortfall) {
                        shortfall = lack[set];
                        proof = set;
                    }
                }
                toEnd[end] = needs - shortfall - paidBefore;
                paidBefore = needs - shortfall;
            }
        }

        /** Each legacy pays what those up to it can pay of the ends' shares, less what those before it pay. */
        private void planLegacies() {
            setLack(toEnd);
            int all = lack[SETS - 1];
            int paidBefore = 0;
            for (int i = 0; i < number; i++) {
                lessenLack(i);
                int paid = all - greatestLack();
                fromLegacy[i] = paid - paidBefore;
                paidBefore = paid;
            }
        }

        private void setLack(int[] amounts) {
            lack[0] = 0;
            for (int end = 0; end < ENDS && end < amounts.length; end++) {
                for (int others = 0; others < 1 << end; others++) {
                    lack[others | (1 << end)] = lack[others] + amounts[end];
                }
            }
        }

        private void lessenLack(int legacy) {
            for (int set = 1; set < SETS; set++) {
                if ((set & ends[legacy]) != 0) {
                    lack[set] -= coins[legacy];
                }
            }
        }

        private int greatestLack() {
            int greatest = 0;
            for (int set = 1; set < SETS; set++) {
                greatest = Math.max(greatest, lack[set]);
            }
            return greatest;
        }

        int payPlanned() {
            int paid = 0;
            for (int end = 0; end < ENDS; end++) {
                need[end] -= toEnd[end];
                paid += toEnd[end];
            }
            for (int i = 0; i < number; i++) {
                coins[i] -= fromLegacy[i];
            }
            return paid;
        }
    }
}
