/**
 * The edges of LEGACIES, ENDS, NEEDS, PAYING, SHORT and PROOF ("Terms", part 4, promises 12 to 15):
 * above each method stands the document's sentence that it tests.
 */
public final class LegaciesEdgesTest {
    private static final int NONE = BlueCoats.NONE;
    private static final int[] FAR = {Integer.MIN_VALUE, Integer.MIN_VALUE + 63, -64, -2, 65536, Integer.MAX_VALUE};

    public static void main(String[] args) {
        eightLegacies();
        coinsOfALegacy();
        endsOfALegacy();
        legacyThatCannotBe();
        needsAtFirst();
        needOfAnEnd();
        needBecomes();
        needThatCannotBe();
        onlyToEndsThatItMay();
        noMoreThanCoins();
        noMoreThanNeeds();
        asMuchAsCanBe();
        endZeroGetsMost();
        thenEndOne();
        endsBeforeLegacies();
        legacyZeroPaysMost();
        thenLegacyOne();
        legacyThatMayNot();
        mostOfAll();
        paidIsOff();
        needAnewAfterPaying();
        nothingToPay();
        shortOfAll();
        shortOfNothing();
        proofOfNothing();
        leastProof();
        proofCountsEachLegacyOnce();
        proofOfEachEnd();
        owedChangesNothing();
        owedWithoutK();
        owedToNoSuchEnd();
        owedFromNoSuchLegacy();
        owedOfAnotherWhat();
        Check.end();
    }

    private static void due(String what, long want, long got) {
        Check.due(what, want, got);
    }

    /** A chest: the NEEDS of the ENDS from 0 on, then pairs of coins and ENDS. */
    private static BlueCoats chest(int[] needs, int... legacies) {
        BlueCoats school = new BlueCoats();
        for (int end = 0; end < needs.length; end++) {
            school.need(end, needs[end]);
        }
        for (int i = 0; i + 1 < legacies.length; i += 2) {
            school.legacy(legacies[i], legacies[i + 1]);
        }
        return school;
    }

    private static int[] row(int... numbers) {
        return numbers;
    }

    private static void toEnds(String what, BlueCoats school, int... shares) {
        for (int end = 0; end < 6; end++) {
            due(what + ": to end " + end, end < shares.length ? shares[end] : 0, school.owed(0, end));
        }
    }

    private static void fromLegacies(String what, BlueCoats school, int... payments) {
        for (int i = 0; i < payments.length; i++) {
            due(what + ": from legacy " + i, payments[i], school.owed(1, i));
        }
        due(what + ": no legacy behind these", NONE, school.owed(1, payments.length));
    }

    private static void shortAndProof(String what, BlueCoats school, int shortfall, int proof) {
        due(what + ": short", shortfall, school.owed(2, 0));
        due(what + ": proof", proof, school.owed(3, 0));
    }

    /** "LEGACIES, at most 8", "NONE: .. there are 8". */
    private static void eightLegacies() {
        BlueCoats school = new BlueCoats();
        school.need(0, 9);
        for (int i = 0; i < 8; i++) {
            due("so many", i, school.count(4));
            due("a legacy", i, school.legacy(1, 1));
        }
        due("a ninth", NONE, school.legacy(1, 1));
        due("8", 8, school.count(4));
        due("8 pay", 8, school.pay());
        due("there is no room for an empty one's sake", NONE, school.legacy(1, 1));
    }

    /** "coins 0 .. 9999": the least and the most. */
    private static void coinsOfALegacy() {
        BlueCoats school = chest(row(9999, 9999));
        due("none", 0, school.legacy(0, 1));
        due("it pays nothing", 0, school.owed(1, 0));
        due("the most", 1, school.legacy(9999, 1));
        due("it pays all", 9999, school.owed(1, 1));
        due("all but one", 2, school.legacy(9998, 2));
        due("it pays them", 9998, school.owed(1, 2));
    }

    /** "ENDS (bits, of 6) that they may pay", "ENDS (bits 0 .. 63)": none, each, all. */
    private static void endsOfALegacy() {
        for (int ends = 0; ends < 64; ends++) {
            BlueCoats school = chest(row(1, 1, 1, 1, 1, 1));
            due("ends " + ends, 0, school.legacy(9999, ends));
            for (int end = 0; end < 6; end++) {
                due("to end " + end + " of " + ends, ends >> end & 1, school.owed(0, end));
            }
            due("paid to " + ends, Integer.bitCount(ends), school.pay());
        }
    }

    /** "NONE: no such coins, ENDS (bits 0 .. 63)". */
    private static void legacyThatCannotBe() {
        BlueCoats school = new BlueCoats();
        due("coins -1", NONE, school.legacy(-1, 1));
        due("coins 10000", NONE, school.legacy(10000, 1));
        due("ends -1", NONE, school.legacy(1, -1));
        due("ends 64", NONE, school.legacy(1, 64));
        for (int far : FAR) {
            due("coins " + far, NONE, school.legacy(far, 1));
            due("ends " + far, NONE, school.legacy(1, far));
        }
        due("none came", 0, school.count(4));
        due("the first that can be has number 0", 0, school.legacy(1, 1));
    }

    /** "Each END has a NEED (.. 0 at first)". */
    private static void needsAtFirst() {
        BlueCoats school = chest(row(), 9999, 63);
        toEnds("nothing", school);
        fromLegacies("nothing", school, 0);
        shortAndProof("nothing", school, 0, 0);
    }

    /** "a NEED (0 .. 9999 ..)", "The NEED of an END becomes so much: true": each END, the least and the most. */
    private static void needOfAnEnd() {
        for (int end = 0; end < 6; end++) {
            BlueCoats school = new BlueCoats();
            Check.due("the most", true, school.need(end, 9999));
            shortAndProof("the most", school, 9999, 1 << end);
            Check.due("1", true, school.need(end, 1));
            shortAndProof("1", school, 1, 1 << end);
            Check.due("nothing", true, school.need(end, 0));
            shortAndProof("nothing", school, 0, 0);
        }
    }

    /** "becomes so much": not so much more, and no other END's. */
    private static void needBecomes() {
        BlueCoats school = chest(row(10, 20, 30, 40, 50, 60));
        school.need(2, 5);
        school.need(2, 7);
        due("short", 10 + 20 + 7 + 40 + 50 + 60, school.owed(2, 0));
    }

    /** "false: no such END, NEED": then the NEEDS stay. */
    private static void needThatCannotBe() {
        BlueCoats school = chest(row(1, 2, 3, 4, 5, 6));
        Check.due("end -1", false, school.need(-1, 9));
        Check.due("end 6", false, school.need(6, 9));
        for (int end = 0; end < 6; end++) {
            Check.due("-1", false, school.need(end, -1));
            Check.due("10000", false, school.need(end, 10000));
        }
        for (int far : FAR) {
            Check.due("end " + far, false, school.need(far, 9));
            Check.due("coins " + far, false, school.need(0, far));
        }
        due("the needs stay", 21, school.owed(2, 0));
    }

    /** "of the coins of each to the ENDS that it may". */
    private static void onlyToEndsThatItMay() {
        BlueCoats school = chest(row(10, 10, 10), 30, 0b010, 30, 0b1000, 30, 0);
        toEnds("only end 1", school, 0, 10);
        fromLegacies("only legacy 0", school, 10, 0, 0);
        shortAndProof("ends 0 and 2", school, 20, 0b101);
    }

    /** "as much as can be ..., of the coins of each": all its coins, and not one more. */
    private static void noMoreThanCoins() {
        BlueCoats school = chest(row(11), 10, 1);
        toEnds("10 of 11", school, 10);
        fromLegacies("all", school, 10);
        shortAndProof("one is short", school, 1, 1);
    }

    /** "To PAY: as much as can be": all of a NEED, and not one more. */
    private static void noMoreThanNeeds() {
        BlueCoats school = chest(row(10), 11, 1);
        toEnds("all", school, 10);
        fromLegacies("10 of 11", school, 10);
        shortAndProof("nothing is short", school, 0, 0);
        due("10", 10, school.pay());
        school.need(0, 5);
        due("one was left", 1, school.pay());
    }

    /** "as much as can be in all": END 0 may not take what lets others go without. */
    private static void asMuchAsCanBe() {
        BlueCoats school = chest(row(10, 10), 10, 0b11, 10, 0b01);
        toEnds("both", school, 10, 10);
        BlueCoats chain = chest(row(10, 10, 10, 10, 10, 10), 10, 0b000011, 10, 0b000110, 10, 0b001100,
                10, 0b011000, 10, 0b110000, 10, 0b000001);
        due("a chain through all ends", 60, chain.pay());
    }

    /** "of several ways END 0 gets most": its whole NEED or all that may come to it. */
    private static void endZeroGetsMost() {
        BlueCoats school = chest(row(10, 10), 10, 0b11);
        toEnds("end 0 alone", school, 10, 0);
        BlueCoats some = chest(row(7, 10), 10, 0b11);
        toEnds("what end 0 leaves", some, 7, 3);
        BlueCoats bound = chest(row(10, 10), 5, 0b11, 9, 0b10);
        toEnds("all that may come to end 0", bound, 5, 9);
    }

    /** "then END 1, and so on". */
    private static void thenEndOne() {
        BlueCoats school = chest(row(3, 3, 3, 3, 3, 3), 10, 63);
        toEnds("one behind the other", school, 3, 3, 3, 1);
        BlueCoats gap = chest(row(0, 4, 0, 4, 4, 4), 10, 63);
        toEnds("past those without need", gap, 0, 4, 0, 4, 2, 0);
        BlueCoats last = chest(row(0, 0, 0, 0, 4, 4), 6, 63);
        toEnds("end 4 before end 5", last, 0, 0, 0, 0, 4, 2);
    }

    /** "of several ways END 0 gets most ..; then LEGACY 0 pays most": the ENDS come first. */
    private static void endsBeforeLegacies() {
        BlueCoats school = chest(row(5, 5), 5, 0b10, 5, 0b01, 0, 0b11);
        toEnds("both", school, 5, 5);
        BlueCoats other = chest(row(4, 4), 4, 0b10, 2, 0b01, 4, 0b11);
        toEnds("all", other, 4, 4);
        fromLegacies("4, 2 and the rest", other, 4, 2, 2);
        BlueCoats less = chest(row(4, 4), 2, 0b10, 4, 0b11);
        toEnds("end 0 by legacy 1", less, 4, 2);
        fromLegacies("both pay all", less, 2, 4);
    }

    /** "then LEGACY 0 pays most". */
    private static void legacyZeroPaysMost() {
        BlueCoats school = chest(row(10), 10, 1, 10, 1);
        fromLegacies("legacy 0 alone", school, 10, 0);
        BlueCoats some = chest(row(10), 7, 1, 10, 1);
        fromLegacies("what legacy 0 leaves", some, 7, 3);
        BlueCoats moved = chest(row(5, 5), 10, 0b11, 5, 0b01, 5, 0b10);
        fromLegacies("legacy 0 pays both ends", moved, 10, 0, 0);
    }

    /** "then 1, and so on". */
    private static void thenLegacyOne() {
        BlueCoats school = chest(row(10), 3, 1, 3, 1, 3, 1, 3, 1, 3, 1, 3, 1, 3, 1, 3, 1);
        fromLegacies("one behind the other", school, 3, 3, 3, 1, 0, 0, 0, 0);
        BlueCoats gap = chest(row(0, 4), 9, 1, 3, 2, 0, 2, 3, 2);
        fromLegacies("past those that may not", gap, 0, 3, 0, 1);
        BlueCoats last = chest(row(0, 0, 0, 0, 0, 5), 9, 31, 9, 31, 9, 31, 9, 31, 9, 31, 9, 31, 3, 32, 3, 32);
        fromLegacies("legacy 6 before legacy 7", last, 0, 0, 0, 0, 0, 0, 3, 2);
    }

    /** "LEGACY 0 pays most": of what it may pay; one END alone is in need, and LEGACY 0 may pay all others. */
    private static void legacyThatMayNot() {
        for (int end = 0; end < 6; end++) {
            BlueCoats school = new BlueCoats();
            school.need(end, 5);
            school.legacy(9999, 63 & ~(1 << end));
            school.legacy(2, 1 << end);
            school.legacy(9999, 1 << end);
            fromLegacies("end " + end, school, 0, 2, 3);
        }
    }

    /** "coins 0 .. 9999", "NEED (0 .. 9999 ..)": the most of all, all paid and all short. */
    private static void mostOfAll() {
        int[] needs = row(9999, 9999, 9999, 9999, 9999, 9999);
        BlueCoats rich = chest(needs, 9999, 63, 9999, 63, 9999, 63, 9999, 63, 9999, 63, 9999, 63, 9999, 63, 9999, 63);
        toEnds("all", rich, needs);
        fromLegacies("the first six", rich, 9999, 9999, 9999, 9999, 9999, 9999, 0, 0);
        shortAndProof("nothing", rich, 0, 0);
        due("paid", 6 * 9999, rich.pay());
        BlueCoats poor = chest(needs, 9999, 0, 9999, 0, 9999, 0, 9999, 0, 9999, 0, 9999, 0, 9999, 0, 9999, 0);
        toEnds("nothing", poor);
        shortAndProof("all", poor, 6 * 9999, 63);
        due("nothing is paid", 0, poor.pay());
    }

    /** "What was paid is off the coins and the NEEDS", "To PAY: how many coins". */
    private static void paidIsOff() {
        BlueCoats school = chest(row(25, 25, 25), 10, 7, 20, 1, 30, 6);
        due("pay", 60, school.pay());
        toEnds("nothing more", school);
        fromLegacies("nothing more", school, 0, 0, 0);
        shortAndProof("end 2 alone", school, 15, 0b100);
        due("nothing more to pay", 0, school.pay());
        school.legacy(20, 0b100);
        due("what was short", 15, school.pay());
        shortAndProof("nothing", school, 0, 0);
        school.need(2, 9);
        due("five were left", 5, school.pay());
    }

    /** "The NEED of an END becomes so much": after PAYING as before it, and the coins are those that are left. */
    private static void needAnewAfterPaying() {
        BlueCoats school = chest(row(30), 50, 1, 50, 1);
        due("30", 30, school.pay());
        school.need(0, 40);
        fromLegacies("20 are left of the first", school, 20, 20);
        due("40", 40, school.pay());
        school.need(0, 9999);
        due("30 are left of the second", 30, school.pay());
        shortAndProof("the rest", school, 9969, 1);
    }

    /** "To PAY: how many coins": 0 without NEEDS, without LEGACIES, without either; then nothing changes. */
    private static void nothingToPay() {
        BlueCoats none = new BlueCoats();
        due("neither", 0, none.pay());
        BlueCoats needs = chest(row(5, 5));
        due("no legacies", 0, needs.pay());
        shortAndProof("the needs stay", needs, 10, 3);
        BlueCoats coins = chest(row(), 5, 63);
        due("no needs", 0, coins.pay());
        coins.need(0, 9);
        due("the coins stay", 5, coins.pay());
        BlueCoats apart = chest(row(5), 5, 62);
        String before = Check.picture(apart);
        due("no such legacy", 0, apart.pay());
        Check.same("nothing changes", before, Check.picture(apart));
    }

    /** "SHORT: what of all NEEDS can't be paid": coins that are too many for one END don't help another. */
    private static void shortOfAll() {
        BlueCoats school = chest(row(10, 10), 100, 0b01, 3, 0b10);
        shortAndProof("7 of end 1", school, 7, 0b10);
        BlueCoats both = chest(row(10, 10), 3, 0b01, 3, 0b10);
        shortAndProof("7 and 7", both, 14, 0b11);
    }

    /** "SHORT": 0 when all can be paid, to the last coin. */
    private static void shortOfNothing() {
        BlueCoats school = chest(row(5, 6), 11, 3);
        shortAndProof("just enough", school, 0, 0);
        school.need(1, 7);
        shortAndProof("one short", school, 1, 3);
    }

    /** "(bits; the empty set has 0)": it is the least when nothing is SHORT. */
    private static void proofOfNothing() {
        shortAndProof("a new one", new BlueCoats(), 0, 0);
        shortAndProof("tight ends", chest(row(5, 5, 5), 5, 1, 5, 2, 5, 4), 0, 0);
        shortAndProof("coins alone", chest(row(), 5, 1), 0, 0);
    }

    /** "the least number": of several sets that are just SHORT. */
    private static void leastProof() {
        shortAndProof("end 0 is just paid: not 3 but 2", chest(row(5, 9), 5, 1), 9, 0b10);
        shortAndProof("ends without need: not 63 but 8", chest(row(0, 0, 0, 4)), 4, 0b1000);
        shortAndProof("an end too rich takes no part", chest(row(5, 9, 9), 6, 1, 9, 4), 9, 0b010);
        shortAndProof("7 and 6 alike", chest(row(10, 10, 10), 10, 1, 5, 6), 15, 0b110);
        shortAndProof("neither end alone", chest(row(4, 4), 4, 3), 4, 0b11);
    }

    /** "the coins of all LEGACIES that may pay one of them at least": each counts once, however many it may pay. */
    private static void proofCountsEachLegacyOnce() {
        shortAndProof("one for three", chest(row(10, 10, 10), 12, 7), 18, 7);
        shortAndProof("one for two of three", chest(row(10, 10, 10), 12, 3), 18, 7);
        shortAndProof("one for none of them", chest(row(10, 10, 10), 12, 56), 30, 7);
        shortAndProof("two for one each and both", chest(row(10, 10), 4, 1, 4, 2, 4, 3), 8, 3);
    }

    /** "PROOF: of sets of ENDS": each set can be the one. */
    private static void proofOfEachEnd() {
        for (int set = 0; set < 64; set++) {
            BlueCoats school = new BlueCoats();
            for (int end = 0; end < 6; end++) {
                school.need(end, (set >> end & 1) != 0 ? 10 + end : 3);
            }
            school.legacy(18, 63 & ~set);
            int needs = 0;
            for (int end = 0; end < 6; end++) {
                needs += (set >> end & 1) != 0 ? 10 + end : 0;
            }
            shortAndProof("set " + set, school, needs, set);
        }
    }

    /** "What PAYING would do": to ask pays nothing. */
    private static void owedChangesNothing() {
        BlueCoats school = chest(row(25, 25, 25), 10, 7, 20, 1, 30, 6);
        String before = Check.picture(school);
        for (int i = 0; i < 3; i++) {
            Check.same("asked again", before, Check.picture(school));
        }
        due("then it is paid", 60, school.pay());
    }

    /** "2: SHORT, 3: PROOF (k isn't looked at)". */
    private static void owedWithoutK() {
        BlueCoats school = chest(row(0, 9), 2, 2);
        for (int k : new int[] {Integer.MIN_VALUE, -1, 0, 1, 5, 6, 8, Integer.MAX_VALUE}) {
            due("short, k " + k, 7, school.owed(2, k));
            due("proof, k " + k, 2, school.owed(3, k));
        }
    }

    /** "NONE for no such ones": END k. */
    private static void owedToNoSuchEnd() {
        BlueCoats school = chest(row(1, 1, 1, 1, 1, 1), 9, 63, 9, 63, 9, 63, 9, 63, 9, 63, 9, 63, 9, 63, 9, 63);
        due("end -1", NONE, school.owed(0, -1));
        due("end 6, though there are more legacies", NONE, school.owed(0, 6));
        due("end 7", NONE, school.owed(0, 7));
        for (int far : FAR) {
            due("end " + far, NONE, school.owed(0, far));
        }
        due("the last", 1, school.owed(0, 5));
    }

    /** "NONE for no such ones": LEGACY k. */
    private static void owedFromNoSuchLegacy() {
        BlueCoats school = chest(row(9));
        due("none at all", NONE, school.owed(1, 0));
        for (int i = 0; i < 8; i++) {
            school.legacy(1, 1);
            due("the last", 1, school.owed(1, i));
            due("behind the last", NONE, school.owed(1, i + 1));
        }
        due("legacy -1", NONE, school.owed(1, -1));
        for (int far : FAR) {
            due("legacy " + far, NONE, school.owed(1, far));
        }
    }

    /** "NONE for no such ones": what. */
    private static void owedOfAnotherWhat() {
        BlueCoats school = chest(row(9), 5, 1);
        for (int what : new int[] {Integer.MIN_VALUE, -2, -1, 4, 5, 256, Integer.MAX_VALUE}) {
            due("what " + what, NONE, school.owed(what, 0));
        }
    }
}
