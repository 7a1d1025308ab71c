import java.util.NoSuchElementException;

/**
 * The edges of the calls as such: a new object, refused calls, numbers from both ends of int, 512 calls
 * (promises 1 and 18, and what all promises say of refused calls). Above each method stands the
 * document's sentence that it tests.
 */
public final class CallsEdgesTest {
    private static final int NONE = BlueCoats.NONE;
    private static final int[] NUMBERS = {Integer.MIN_VALUE, Integer.MIN_VALUE + 1, -65536, -100, -2, -1, 0, 1, 2, 3, 4,
        5, 6, 7, 8, 9, 15, 16, 17, 39, 40, 41, 63, 64, 300, 301, 9999, 10000, 65536, Integer.MAX_VALUE - 1, Integer.MAX_VALUE};

    public static void main(String[] args) {
        newObject();
        newObjectsAreApart();
        counts();
        countOfAnotherWhat();
        refusedCalls();
        looksChangeNothing();
        numbersOfAllCalls();
        exceptionsOfLook();
        calls512();
        sameCallsSameAnswers();
        Check.end();
    }

    private static void due(String what, long want, long got) {
        Check.due(what, want, got);
    }

    /** "No STATUTES, GIVERS, CHILDREN, coats, LEGACIES; an empty TAPE". */
    private static void newObject() {
        Check.same("a new object", "counts 0 0 0 0 0 0 2 0, fault 0 -1, owed 0 0 0 0 0 0 short 0 proof 0",
                Check.picture(new BlueCoats()));
        due("an empty tape", -2, new BlueCoats().statutes(1));
        due("the first feed", 20, new BlueCoats().feed(0, 0, 0, 0, 0));
        due("no place is filled", NONE, new BlueCoats().fill());
        due("nobody is bound", 0, new BlueCoats().year());
        due("nothing is cut", 0, new BlueCoats().feast());
        due("nothing is paid", 0, new BlueCoats().pay());
    }

    /** "A new object": what was done to another one is not done to it. */
    private static void newObjectsAreApart() {
        BlueCoats full = fullSchool();
        BlueCoats school = new BlueCoats();
        Check.same("a new one beside a full one", Check.picture(new BlueCoats()), Check.picture(school));
        String before = Check.picture(full);
        school.giver();
        school.child(1, 1, 11, 1);
        Check.statutes(school, "cycle vote;");
        school.year();
        school.need(0, 1);
        Check.same("the full one", before, Check.picture(full));
    }

    /** A school with some of everything, most of it at its limit. */
    private static BlueCoats fullSchool() {
        BlueCoats school = Check.school("cycle need turn vote;places 3;age 0 12;vote 10;wear 2;");
        for (int i = 0; i < 8; i++) {
            school.giver();
            school.gift(i, 99990 + i);
            school.legacy(3 * i, 8 * i + 1);
        }
        for (int i = 0; i < 16; i++) {
            school.child(i, i, 10 + i, i % 5);
            school.support(i % 8, i);
        }
        school.fill();
        school.feast();
        school.fill();
        school.fill();
        school.need(0, 50);
        school.need(4, 60);
        return school;
    }

    /** "0 GIVERS, 1 CHILDREN, 2 IN, 3 coats ever, 4 LEGACIES, 5 the GIVER who is next, 6 the W that is next, 7 YEARS". */
    private static void counts() {
        BlueCoats school = Check.school("cycle turn vote need;age 0 20;vote 1;wear 1;");
        int[] counts = new int[8];
        count("at first", school, counts);
        for (int i = 0; i < 3; i++) {
            school.giver();
        }
        counts[0] = 3;
        count("givers", school, counts);
        for (int i = 0; i < 4; i++) {
            school.child(18, 0, 20, 0);
        }
        counts[1] = 4;
        count("children", school, counts);
        school.support(1, 2);
        school.gift(1, 5);
        school.fill();
        counts[2] = 1;
        counts[5] = 2;
        counts[6] = 1;
        count("by turn", school, counts);
        school.support(1, 3);
        school.fill();
        counts[2] = 2;
        counts[6] = 2;
        count("by vote", school, counts);
        school.feast();
        counts[3] = 2;
        count("coats", school, counts);
        school.legacy(1, 1);
        counts[4] = 1;
        count("legacies", school, counts);
        school.year();
        counts[7] = 1;
        count("a year: gone coats count still", school, counts);
        school.year();
        counts[2] = 0;
        counts[7] = 2;
        count("who is bound is in no more", school, counts);
    }

    private static void count(String name, BlueCoats school, int[] counts) {
        for (int what = 0; what < 8; what++) {
            due(name + ": count " + what, counts[what], school.count(what));
        }
    }

    /** "NONE for another what". */
    private static void countOfAnotherWhat() {
        BlueCoats school = fullSchool();
        for (int what : new int[] {Integer.MIN_VALUE, -2, -1, 8, 9, 256, Integer.MAX_VALUE}) {
            due("count " + what, NONE, school.count(what));
        }
    }

    /** NONE, false, -2 or an exception: a refused call changes nothing. */
    private static void refusedCalls() {
        String before = Check.picture(fullSchool());
        BlueCoats school = fullSchool();
        due("statutes -1", -2, school.statutes(-1));
        due("statutes 1", -2, school.statutes(1));
        due("giver", NONE, school.giver());
        due("gift of giver 8", NONE, school.gift(8, 1));
        due("gift of nothing", NONE, school.gift(0, 0));
        due("gift of too much", NONE, school.gift(7, 3));
        Check.due("support by giver 8", false, school.support(8, 0));
        Check.due("support of child 16", false, school.support(0, 16));
        due("child", NONE, school.child(1, 1, 11, 1));
        due("child that can't be", NONE, school.child(21, 1, 11, 1));
        due("fill", NONE, school.fill());
        due("legacy", NONE, school.legacy(1, 1));
        Check.due("need of end 6", false, school.need(6, 1));
        Check.due("need of 10000", false, school.need(0, 10000));
        due("owed", NONE, school.owed(4, 0));
        due("look", Check.NO_CHILD, Check.look(school, 16, 0));
        due("look", Check.NO_WHAT, Check.look(school, 0, 6));
        due("coat", NONE, school.coat(40, 0));
        due("count", NONE, school.count(8));
        due("fault", NONE, school.fault(2));
        Check.same("refused calls change nothing", before, Check.picture(school));
        due("what giver 7 gave", 99999, school.gift(7, 2));
    }

    /** "fault", "owed", "look", "coat", "count": they tell, and change nothing. */
    private static void looksChangeNothing() {
        BlueCoats school = fullSchool();
        Check.same("two pictures", Check.picture(school), Check.picture(school));
    }

    private static boolean within(int number, int least, int most) {
        return number >= least && number <= most;
    }

    /** "NONE ..", "false ..", "-2 ..": numbers from both ends of int, for each number of each call. */
    private static void numbersOfAllCalls() {
        for (int n : NUMBERS) {
            for (int m : NUMBERS) {
                BlueCoats school = Check.school("age 0 20;");
                school.giver();
                school.child(1, 1, 11, 1);
                String pair = "(" + n + ", " + m + ")";
                due("gift" + pair, n == 0 && within(m, 1, 99999) ? m : NONE, school.gift(n, m));
                Check.due("support" + pair, n == 0 && within(m, -1, 0), school.support(n, m));
                due("legacy" + pair, within(n, 0, 9999) && within(m, 0, 63) ? 0 : NONE, school.legacy(n, m));
                Check.due("need" + pair, within(n, 0, 5) && within(m, 0, 9999), school.need(n, m));
                due("child" + pair, within(n, 0, 20) && within(m, 0, 99) ? 1 : NONE, school.child(n, m, 10, 0));
                due("child(.., .., " + n + ", " + m + ")", within(n, 10, 60) && within(m, 0, 4), school.child(1, 1, n, m));
                due("coat" + pair, NONE, school.coat(n, m));
                boolean owed = n == 2 || n == 3 || n == 0 && within(m, 0, 5) || n == 1 && m == 0 && school.count(4) == 1;
                Check.due("owed" + pair, owed, school.owed(n, m) != NONE);
                int look = Check.look(school, n, m);
                boolean isChild = within(n, 0, school.count(1) - 1);
                Check.due("look" + pair + " finds a child", isChild, look != Check.NO_CHILD);
                Check.due("look" + pair + " finds a what", isChild && within(m, 0, 5), look != Check.NO_CHILD && look != Check.NO_WHAT);
            }
        }
    }

    private static void due(String what, boolean comes, int number) {
        Check.due(what, comes, number != NONE);
    }

    /** "throws IndexOutOfBoundsException, NoSuchElementException": these themselves, not classes under them. */
    private static void exceptionsOfLook() {
        BlueCoats school = new BlueCoats();
        school.child(1, 1, 11, 1);
        Check.due("no such child", true, thrown(school, 1, 0) == IndexOutOfBoundsException.class);
        Check.due("no such child", true, thrown(school, -1, 0) == IndexOutOfBoundsException.class);
        Check.due("neither", true, thrown(school, 16, 7) == IndexOutOfBoundsException.class);
        Check.due("no such what", true, thrown(school, 0, 6) == NoSuchElementException.class);
        Check.due("no such what", true, thrown(school, 0, -1) == NoSuchElementException.class);
        Check.due("none", true, thrown(school, 0, 5) == null);
    }

    private static Class<?> thrown(BlueCoats school, int child, int what) {
        try {
            school.look(child, what);
            return null;
        } catch (RuntimeException e) {
            return e.getClass();
        }
    }

    /** "An object is used for at most 512 calls after it has been made": up to the last of them. */
    private static void calls512() {
        BlueCoats years = new BlueCoats();
        for (int i = 1; i < 512; i++) {
            due("year " + i, 0, years.year());
        }
        due("the 512th call", 511, years.count(7));

        BlueCoats worn = Check.school("age 0 20;wear 9;");
        worn.child(1, 0, 60, 4);
        worn.fill();
        worn.feast();
        for (int i = 6; i < 512; i++) {
            worn.year();
        }
        due("the years worn, by the 512th call", 506, worn.coat(0, 1));

        BlueCoats tapes = new BlueCoats();
        for (int i = 0; i < 256; i++) {
            due("feed", 20, tapes.feed(0x77656172, 0x20353b20, 0x20202020, 0x20202020, 0x20202020));
            due("statutes", 1, tapes.statutes(20));
        }
    }

    /** The same calls always give the same answers, on one object of many as on the first. */
    private static void sameCallsSameAnswers() {
        String first = Check.picture(fullSchool());
        for (int i = 0; i < 50; i++) {
            Check.same("the same calls", first, Check.picture(fullSchool()));
        }
    }
}
