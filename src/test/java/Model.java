import java.util.ArrayList;
import java.util.Arrays;
import java.util.List;
import java.util.regex.Matcher;
import java.util.regex.Pattern;

/**
 * The document written a second time, as plainly as can be, to hold the class against: it searches
 * through sets and augments flows where the class reckons with Hall's theorem and least cuts.
 */
final class Model {
    static final int NONE = -1;
    private static final Pattern TOKEN = Pattern.compile("[a-z]+|[0-9]+|[^ \\n]", Pattern.DOTALL);
    private static final List<String> WAYS = List.of("turn", "vote", "need");

    static final class Child {
        int age;
        int need;
        int size;
        int growth;
        int state;
        int coat = NONE;
    }

    static final class Coat {
        int size;
        int worn;
        boolean gone;
        int wearer = NONE;
    }

    /** Where a text goes wrong; thrown from wherever the reading stands. */
    private static final class Fault extends Exception {
        private static final long serialVersionUID = 1L;
        final int what;
        final int place;

        Fault(int what, int place) {
            this.what = what;
            this.place = place;
        }
    }

    private static final class Law {
        List<Integer> cycle = List.of(2);
        int vote = 100;
        int ageFrom = 7;
        int ageTo = 14;
        int wear = 3;
        int spare = 1;
        int places = 8;
    }

    final StringBuilder tape = new StringBuilder();
    final List<Integer> gave = new ArrayList<>();
    final List<Integer> supported = new ArrayList<>();
    final List<Child> children = new ArrayList<>();
    final List<Coat> coats = new ArrayList<>();
    final List<int[]> legacies = new ArrayList<>();
    final int[] need = new int[6];
    private Law law = new Law();
    private int nextWay = 0;
    private int nextGiver = 0;
    private int years = 0;
    private int fault = 0;
    private int faultPlace = NONE;

    int feed(int... numbers) {
        if (tape.length() + 20 > 300) {
            return NONE;
        }
        for (int number : numbers) {
            for (int shift = 24; shift >= 0; shift -= 8) {
                tape.append((char) (number >>> shift & 255));
            }
        }
        return tape.length();
    }

    int statutes(int n) {
        if (n < 0 || n > tape.length()) {
            return -2;
        }
        String text = tape.substring(0, n);
        tape.setLength(0);
        fault = 0;
        faultPlace = NONE;
        try {
            Law read = new Law();
            int lines = read(text, read);
            law = read;
            nextWay = 0;
            return lines;
        } catch (Fault found) {
            fault = found.what;
            faultPlace = found.place;
            return NONE;
        }
    }

    private static int read(String text, Law law) throws Fault {
        List<String> tokens = new ArrayList<>();
        List<Integer> places = new ArrayList<>();
        for (Matcher matcher = TOKEN.matcher(text); matcher.find(); ) {
            tokens.add(matcher.group());
            places.add(matcher.start());
        }
        int end = tokens.size();
        tokens.add("");
        places.add(text.length());
        List<String> told = new ArrayList<>();
        int at = 0;
        while (at < end) {
            String word = tokens.get(at);
            if (!List.of("cycle", "vote", "age", "wear", "spare", "places").contains(word)) {
                throw new Fault(1, places.get(at));
            }
            if (told.contains(word)) {
                throw new Fault(3, places.get(at));
            }
            told.add(word);
            at++;
            int count = word.equals("cycle") ? cycle(tokens, places, at, law) : numbers(word, tokens, places, at, law);
            at += count;
            if (!tokens.get(at).equals(";")) {
                throw new Fault(1, places.get(at));
            }
            at++;
        }
        return told.size();
    }

    private static int cycle(List<String> tokens, List<Integer> places, int at, Law law) throws Fault {
        List<Integer> ways = new ArrayList<>();
        while (WAYS.contains(tokens.get(at + ways.size()))) {
            if (ways.size() == 8) {
                throw new Fault(2, places.get(at + 8));
            }
            ways.add(WAYS.indexOf(tokens.get(at + ways.size())));
        }
        if (ways.isEmpty()) {
            throw new Fault(1, places.get(at));
        }
        law.cycle = ways;
        return ways.size();
    }

    private static int numbers(String word, List<String> tokens, List<Integer> places, int at, Law law) throws Fault {
        switch (word) {
            case "vote":
                law.vote = number(tokens, places, at, 1, 9999);
                return 1;
            case "wear":
                law.wear = number(tokens, places, at, 1, 9);
                return 1;
            case "spare":
                law.spare = number(tokens, places, at, 0, 9);
                return 1;
            case "places":
                law.places = number(tokens, places, at, 1, 8);
                return 1;
            default:
                law.ageFrom = number(tokens, places, at, 0, 20);
                law.ageTo = number(tokens, places, at + 1, law.ageFrom, 20);
                return 2;
        }
    }

    private static int number(List<String> tokens, List<Integer> places, int at, int least, int most) throws Fault {
        String token = tokens.get(at);
        if (!token.matches("[0-9]+")) {
            throw new Fault(1, places.get(at));
        }
        java.math.BigInteger value = new java.math.BigInteger(token);
        if (value.bitLength() > 30 || value.intValue() < least || value.intValue() > most) {
            throw new Fault(2, places.get(at));
        }
        return value.intValue();
    }

    int fault(int what) {
        return what == 0 ? fault : what == 1 ? faultPlace : NONE;
    }

    int giver() {
        if (gave.size() == 8) {
            return NONE;
        }
        gave.add(0);
        supported.add(NONE);
        return gave.size() - 1;
    }

    int gift(int giver, int coins) {
        if (giver < 0 || giver >= gave.size() || coins < 1 || (long) gave.get(giver) + coins > 99999) {
            return NONE;
        }
        gave.set(giver, gave.get(giver) + coins);
        return gave.get(giver);
    }

    boolean support(int giver, int child) {
        if (giver < 0 || giver >= gave.size() || child < -1 || child >= children.size()) {
            return false;
        }
        supported.set(giver, child);
        return true;
    }

    int child(int age, int need, int size, int growth) {
        if (children.size() == 16 || outside(age, 0, 20) || outside(need, 0, 99)
                || outside(size, 10, 60) || outside(growth, 0, 4)) {
            return NONE;
        }
        Child child = new Child();
        child.age = age;
        child.need = need;
        child.size = size;
        child.growth = growth;
        children.add(child);
        return children.size() - 1;
    }

    private static boolean outside(int value, int least, int most) {
        return value < least || value > most;
    }

    private int in() {
        return guests().size();
    }

    private List<Integer> guests() {
        List<Integer> in = new ArrayList<>();
        for (int i = 0; i < children.size(); i++) {
            if (children.get(i).state == 1) {
                in.add(i);
            }
        }
        return in;
    }

    private int votes(int child) {
        int votes = 0;
        for (int i = 0; i < gave.size(); i++) {
            votes += supported.get(i) == child ? gave.get(i) / law.vote : 0;
        }
        return votes;
    }

    private boolean waits(int child) {
        Child one = child == NONE ? null : children.get(child);
        return one != null && one.state == 0 && one.age >= law.ageFrom && one.age < law.ageTo;
    }

    int fill() {
        if (in() >= law.places) {
            return NONE;
        }
        int way = law.cycle.get(nextWay);
        int chosen = way == 0 ? byTurn() : byRank(way == 1);
        if (chosen != NONE) {
            children.get(chosen).state = 1;
            nextWay = (nextWay + 1) % law.cycle.size();
        }
        return chosen;
    }

    private int byTurn() {
        for (int i = 0; i < gave.size(); i++) {
            int giver = (nextGiver + i) % gave.size();
            if (waits(supported.get(giver))) {
                nextGiver = (giver + 1) % gave.size();
                return supported.get(giver);
            }
        }
        return NONE;
    }

    private int byRank(boolean byVote) {
        List<Integer> able = new ArrayList<>();
        for (int i = 0; i < children.size(); i++) {
            if (waits(i) && (!byVote || votes(i) > 0)) {
                able.add(i);
            }
        }
        able.sort((x, y) -> {
            int order = byVote ? votes(y) - votes(x) : 0;
            order = order == 0 ? children.get(y).need - children.get(x).need : order;
            return order == 0 ? x - y : order;
        });
        return able.isEmpty() ? NONE : able.get(0);
    }

    int year() {
        years++;
        int bound = 0;
        for (Child child : children) {
            child.age = Math.min(99, child.age + 1);
            child.size = Math.min(99, child.size + child.growth);
            if (child.state == 1 && child.age >= law.ageTo) {
                child.state = 2;
                bound++;
                if (child.coat != NONE) {
                    coats.get(child.coat).wearer = NONE;
                    child.coat = NONE;
                }
            }
        }
        for (Coat coat : coats) {
            coat.worn++;
            coat.gone |= coat.worn >= law.wear;
            if (coat.gone && coat.wearer != NONE) {
                children.get(coat.wearer).coat = NONE;
                coat.wearer = NONE;
            }
        }
        return bound;
    }

    /** Tries all sets of children in the school that could have an old coat. */
    int feast() {
        List<Integer> guests = guests();
        int best = 0;
        for (int set = 1; set < 1 << guests.size(); set++) {
            if (canHave(guests, set, new int[guests.size()]) && better(guests, set, best)) {
                best = set;
            }
        }
        if (coats.size() + guests.size() - Integer.bitCount(best) > 40) {
            return NONE;
        }
        int[] given = givenOld(guests, best);
        for (Coat coat : coats) {
            coat.wearer = NONE;
        }
        for (int i = 0; i < guests.size(); i++) {
            Child child = children.get(guests.get(i));
            child.coat = given[i];
            if (given[i] == NONE) {
                Coat coat = new Coat();
                coat.size = child.size;
                coats.add(coat);
                child.coat = coats.size() - 1;
            }
            coats.get(child.coat).wearer = guests.get(i);
        }
        return cloth(guests, best);
    }

    private int cloth(List<Integer> guests, int dressed) {
        int cloth = 0;
        for (int i = 0; i < guests.size(); i++) {
            cloth += (dressed >> i & 1) == 0 ? children.get(guests.get(i)).size : 0;
        }
        return cloth;
    }

    private boolean better(List<Integer> guests, int set, int best) {
        int less = cloth(guests, best) - cloth(guests, set);
        if (less != 0) {
            return less > 0;
        }
        int differs = Integer.lowestOneBit(set ^ best);
        return (set & differs) != 0;
    }

    private int[] givenOld(List<Integer> guests, int set) {
        int[] fixed = new int[guests.size()];
        for (int i = 0; i < guests.size(); i++) {
            if ((set >> i & 1) == 0) {
                fixed[i] = NONE;
                continue;
            }
            fixed[i] = 0;
            do {
                fixed[i]++;
            } while (!canHave(guests, set, fixed));
        }
        for (int i = 0; i < fixed.length; i++) {
            fixed[i] = fixed[i] == NONE ? NONE : fixed[i] - 1;
        }
        return fixed;
    }

    /** Whether each of a set can have an old coat; fixed has a coat's number + 1 where one is given already. */
    private boolean canHave(List<Integer> guests, int set, int[] fixed) {
        int[] holder = new int[coats.size()];
        Arrays.fill(holder, NONE);
        for (int i = 0; i < guests.size(); i++) {
            if ((set >> i & 1) != 0 && !augment(guests, i, fixed, holder, new boolean[coats.size()])) {
                return false;
            }
        }
        return true;
    }

    private boolean augment(List<Integer> guests, int i, int[] fixed, int[] holder, boolean[] seen) {
        Child child = children.get(guests.get(i));
        for (int c = 0; c < coats.size(); c++) {
            Coat coat = coats.get(c);
            boolean fits = !coat.gone && coat.size >= child.size && coat.size - child.size <= law.spare;
            if (!fits || seen[c] || (fixed[i] > 0 && fixed[i] != c + 1)) {
                continue;
            }
            seen[c] = true;
            if (holder[c] == NONE || augment(guests, holder[c], fixed, holder, seen)) {
                holder[c] = i;
                return true;
            }
        }
        return false;
    }

    int legacy(int coins, int ends) {
        if (legacies.size() == 8 || outside(coins, 0, 9999) || outside(ends, 0, 63)) {
            return NONE;
        }
        legacies.add(new int[] {coins, ends});
        return legacies.size() - 1;
    }

    boolean need(int end, int coins) {
        if (outside(end, 0, 5) || outside(coins, 0, 9999)) {
            return false;
        }
        need[end] = coins;
        return true;
    }

    /** Augments a flow end by end; what an end has got is never lost by later augmenting. */
    int[] shares() {
        int[][] flow = new int[legacies.size()][6];
        int[] left = new int[legacies.size()];
        for (int j = 0; j < left.length; j++) {
            left[j] = legacies.get(j)[0];
        }
        int[] got = new int[6];
        for (int end = 0; end < 6; end++) {
            while (got[end] < need[end] && pull(end, flow, left, new boolean[6])) {
                got[end]++;
            }
        }
        return got;
    }

    private boolean pull(int end, int[][] flow, int[] left, boolean[] seen) {
        seen[end] = true;
        for (int j = 0; j < left.length; j++) {
            if ((legacies.get(j)[1] >> end & 1) == 0) {
                continue;
            }
            if (left[j] > 0) {
                left[j]--;
                flow[j][end]++;
                return true;
            }
            for (int other = 0; other < 6; other++) {
                if (!seen[other] && flow[j][other] > 0 && pull(other, flow, left, seen)) {
                    flow[j][other]--;
                    flow[j][end]++;
                    return true;
                }
            }
        }
        return false;
    }

    /** Augments a flow to the ends' shares, legacy by legacy. */
    int[] payments(int[] shares) {
        int[][] flow = new int[legacies.size()][6];
        int[] open = shares.clone();
        int[] paid = new int[legacies.size()];
        for (int j = 0; j < paid.length; j++) {
            while (paid[j] < legacies.get(j)[0] && push(j, flow, open, new boolean[paid.length])) {
                paid[j]++;
            }
        }
        return paid;
    }

    private boolean push(int legacy, int[][] flow, int[] open, boolean[] seen) {
        seen[legacy] = true;
        for (int end = 0; end < 6; end++) {
            if ((legacies.get(legacy)[1] >> end & 1) == 0) {
                continue;
            }
            if (open[end] > 0) {
                open[end]--;
                flow[legacy][end]++;
                return true;
            }
            for (int other = 0; other < flow.length; other++) {
                if (!seen[other] && flow[other][end] > 0 && push(other, flow, open, seen)) {
                    flow[other][end]--;
                    flow[legacy][end]++;
                    return true;
                }
            }
        }
        return false;
    }

    private int shortfall() {
        return Arrays.stream(need).sum() - Arrays.stream(shares()).sum();
    }

    private int proof() {
        int shortfall = shortfall();
        for (int set = 0; set < 64; set++) {
            int lack = 0;
            for (int end = 0; end < 6; end++) {
                lack += (set >> end & 1) != 0 ? need[end] : 0;
            }
            for (int[] legacy : legacies) {
                lack -= (legacy[1] & set) != 0 ? legacy[0] : 0;
            }
            if (lack == shortfall) {
                return set;
            }
        }
        throw new AssertionError("no proof");
    }

    int owed(int what, int k) {
        switch (what) {
            case 0:
                return outside(k, 0, 5) ? NONE : shares()[k];
            case 1:
                return outside(k, 0, legacies.size() - 1) ? NONE : payments(shares())[k];
            case 2:
                return shortfall();
            case 3:
                return proof();
            default:
                return NONE;
        }
    }

    int pay() {
        int[] shares = shares();
        int[] payments = payments(shares);
        for (int end = 0; end < 6; end++) {
            need[end] -= shares[end];
        }
        for (int j = 0; j < payments.length; j++) {
            legacies.get(j)[0] -= payments[j];
        }
        return Arrays.stream(shares).sum();
    }

    int look(int child, int what) {
        if (outside(child, 0, children.size() - 1)) {
            return Check.NO_CHILD;
        }
        Child one = children.get(child);
        int[] all = {one.age, one.need, one.size, one.state, one.coat, votes(child)};
        return outside(what, 0, 5) ? Check.NO_WHAT : all[what];
    }

    int coat(int coat, int what) {
        if (outside(coat, 0, coats.size() - 1) || outside(what, 0, 3)) {
            return NONE;
        }
        Coat one = coats.get(coat);
        return new int[] {one.size, one.worn, one.gone ? 1 : 0, one.wearer}[what];
    }

    int count(int what) {
        int[] all = {gave.size(), children.size(), in(), coats.size(), legacies.size(),
            nextGiver, law.cycle.get(nextWay), years};
        return outside(what, 0, 7) ? NONE : all[what];
    }
}
