/**
 * The edges of COATS and the FEAST ("Terms", part 3 and the end of the YEAR, promises 10, 11 and 17):
 * above each method stands the document's sentence that it tests.
 */
public final class CoatsEdgesTest {
    private static final int NONE = BlueCoats.NONE;
    private static final String OPEN = "age 0 20;wear 9;";

    public static void main(String[] args) {
        allAYearMoreWorn();
        wornAsManyYears();
        wornMoreYears();
        goneStaysGone();
        nobodyHasIt();
        newCoats();
        nobodyAtTheFeast();
        onlyWhoIsIn();
        handedIn();
        feastAfterFeast();
        goneAreNotHandedOut();
        fits();
        fitsWithSpare();
        fitsByNewStatutes();
        oneEach();
        leastCloth();
        leastClothByMoving();
        leastNumberGetsOldOne();
        leastNumberThatDiffers();
        leastCoat();
        leastCoatThatLetsOthers();
        newOnesInOrder();
        greatestSize();
        fortyCoats();
        moreThanForty();
        refusedByOne();
        refusedForGood();
        noSuchCoat();
        noSuchWhat();
        Check.end();
    }

    private static void due(String what, long want, long got) {
        Check.due(what, want, got);
    }

    /** Children of these sizes come in, in this order. */
    private static void bring(BlueCoats school, int... sizes) {
        for (int size : sizes) {
            school.child(1, 0, size, 0);
            school.fill();
        }
    }

    /** A school in which coats of these sizes hang free, a year worn; as many children are BOUND. */
    private static BlueCoats hung(int... sizes) {
        BlueCoats school = Check.school(OPEN);
        bring(school, sizes);
        school.feast();
        Check.statutes(school, "age 0 0;wear 9;");
        school.year();
        Check.statutes(school, OPEN);
        return school;
    }

    /** Which coats the children from the first one on have. */
    private static void coats(String what, BlueCoats school, int first, int... coats) {
        for (int i = 0; i < coats.length; i++) {
            due(what + ": the coat of child " + (first + i), coats[i], Check.look(school, first + i, 4));
            if (coats[i] != NONE) {
                due(what + ": who has coat " + coats[i], first + i, school.coat(coats[i], 3));
            }
        }
    }

    /** "Then all coats (3.) are a year more worn": those that somebody has, those that hang, and gone ones. */
    private static void allAYearMoreWorn() {
        BlueCoats school = hung(20, 30);
        bring(school, 20);
        school.feast();
        due("coat 0 is had", 2, school.coat(0, 3));
        due("coat 1 hangs", NONE, school.coat(1, 3));
        for (int year = 2; year <= 12; year++) {
            school.year();
            due("the one that is had", year, school.coat(0, 1));
            due("the one that hangs", year, school.coat(1, 1));
        }
        due("both are gone", 2, school.coat(0, 2) + school.coat(1, 2));
    }

    /** "one that is worn as many years as wear says .. is gone": for each number of years. */
    private static void wornAsManyYears() {
        for (int wear = 1; wear <= 9; wear++) {
            BlueCoats school = Check.school("age 0 20;wear " + wear + ";");
            bring(school, 20);
            school.feast();
            for (int year = 1; year <= 10; year++) {
                school.year();
                due("wear " + wear + ", year " + year, year >= wear ? 1 : 0, school.coat(0, 2));
            }
        }
    }

    /** "or more": when wear says less by new STATUTES; then the YEAR does it, not the STATUTES, nor the FEAST. */
    private static void wornMoreYears() {
        BlueCoats school = Check.school(OPEN);
        bring(school, 20);
        school.feast();
        for (int i = 0; i < 5; i++) {
            school.year();
        }
        Check.statutes(school, "age 0 20;wear 2;");
        due("not yet", 0, school.coat(0, 2));
        due("it is handed out", 0, school.feast());
        due("and had", 0, school.coat(0, 3));
        school.year();
        due("gone", 1, school.coat(0, 2));
        due("6 years worn", 6, school.coat(0, 1));
    }

    /** "is gone": for good, though wear says more by new STATUTES. */
    private static void goneStaysGone() {
        BlueCoats school = Check.school("age 0 20;wear 1;");
        bring(school, 20);
        school.feast();
        school.year();
        Check.statutes(school, OPEN);
        due("gone", 1, school.coat(0, 2));
        school.year();
        due("still gone", 1, school.coat(0, 2));
        due("a new one", 20, school.feast());
        due("its number", 1, Check.look(school, 0, 4));
        due("nobody has the old one", NONE, school.coat(0, 3));
    }

    /** "is gone, and nobody has it". */
    private static void nobodyHasIt() {
        BlueCoats school = Check.school("age 0 20;wear 1;");
        bring(school, 20, 30);
        school.feast();
        coats("new", school, 0, 0, 1);
        due("nobody is bound", 0, school.year());
        coats("gone", school, 0, NONE, NONE);
        for (int coat = 0; coat < 2; coat++) {
            due("nobody", NONE, school.coat(coat, 3));
            due("its size stays", 20 + 10 * coat, school.coat(coat, 0));
        }
    }

    /** "each of a SIZE, 0 years worn when it is cut": of the SIZE that the child has then. */
    private static void newCoats() {
        BlueCoats school = Check.school("age 0 20;wear 1;");
        school.child(1, 0, 20, 4);
        school.fill();
        for (int i = 0; i < 4; i++) {
            int size = 20 + 4 * i;
            due("the cloth", size, school.feast());
            int[] cut = {size, 0, 0, 0};
            for (int what = 0; what < 4; what++) {
                due("coat " + i + ", what " + what, cut[what], school.coat(i, what));
            }
            school.year();
            due("the year does not make it greater", size, school.coat(i, 0));
        }
    }

    /** "The FEAST: the CLOTH cut": 0 without children, with and without coats. */
    private static void nobodyAtTheFeast() {
        BlueCoats school = new BlueCoats();
        due("nobody, nothing", 0, school.feast());
        school.child(10, 0, 20, 0);
        due("who waits gets none", 0, school.feast());
        due("no coat", 0, school.count(3));
        BlueCoats hung = hung(20, 30);
        due("nobody but coats", 0, hung.feast());
        due("no new one", 2, hung.count(3));
    }

    /** "each child IN gets a coat": not who is WAITING or BOUND. */
    private static void onlyWhoIsIn() {
        BlueCoats school = hung(20, 20);
        bring(school, 20);
        school.child(20, 0, 20, 0);
        due("nothing to cut", 0, school.feast());
        coats("who is in alone", school, 0, NONE, NONE, 0, NONE);
        due("one hangs", NONE, school.coat(1, 3));
    }

    /** "At the FEAST all coats that aren't gone are handed in": by one who has grown out of it to one who has not. */
    private static void handedIn() {
        BlueCoats school = Check.school("age 0 20;wear 9;spare 0;");
        school.child(1, 9, 20, 4);
        school.child(1, 8, 16, 4);
        school.child(1, 7, 12, 4);
        for (int i = 0; i < 3; i++) {
            school.fill();
        }
        due("three new ones", 48, school.feast());
        school.year();
        coats("a year alone hands nothing on", school, 0, 0, 1, 2);
        due("one new one for the greatest", 24, school.feast());
        coats("handed down", school, 0, 3, 0, 1);
        due("the least one hangs", NONE, school.coat(2, 3));
    }

    /** "At the FEAST": each for itself; who got an old coat at the last one may need a new one now. */
    private static void feastAfterFeast() {
        BlueCoats school = hung(20);
        Check.statutes(school, "age 0 20;wear 9;spare 0;");
        school.child(1, 0, 20, 4);
        school.fill();
        due("an old one", 0, school.feast());
        coats("the first has it", school, 1, 0);
        school.year();
        bring(school, 20);
        due("a new one for the first", 24, school.feast());
        coats("the second has the old one", school, 1, 1, 0);
        Check.statutes(school, "age 0 20;wear 2;spare 0;");
        school.year();
        coats("the old one is gone", school, 1, 1, NONE);
        due("two new ones", 48, school.feast());
        coats("both are new", school, 1, 2, 3);
    }

    /** "all coats that aren't gone": a gone one of the right SIZE is given to nobody. */
    private static void goneAreNotHandedOut() {
        BlueCoats school = Check.school("age 0 20;wear 1;");
        bring(school, 20);
        for (int i = 0; i < 3; i++) {
            due("a new one each time", 20, school.feast());
            due("its number", i, Check.look(school, 0, 4));
            due("none to cut while it is there", 0, school.feast());
            school.year();
        }
    }

    /** "FITS it (of its SIZE ..)": with nothing to spare neither less nor more. */
    private static void fits() {
        for (int size = 18; size <= 22; size++) {
            BlueCoats school = hung(20);
            Check.statutes(school, "age 0 20;wear 9;spare 0;");
            bring(school, size);
            due("a coat of 20 for " + size, size == 20 ? 0 : size, school.feast());
        }
    }

    /** "or up to spare more": for each number to spare. */
    private static void fitsWithSpare() {
        for (int spare = 0; spare <= 9; spare++) {
            for (int more = -1; more <= 10; more++) {
                BlueCoats school = hung(30);
                Check.statutes(school, "age 0 20;wear 9;spare " + spare + ";");
                bring(school, 30 - more);
                boolean fits = more >= 0 && more <= spare;
                due("spare " + spare + ", " + more + " more", fits ? 0 : 30 - more, school.feast());
            }
        }
    }

    /** "up to spare more": what spare says now; and a coat that fits no more is handed in all the same. */
    private static void fitsByNewStatutes() {
        BlueCoats school = hung(25);
        Check.statutes(school, "age 0 20;wear 9;spare 5;");
        bring(school, 20);
        due("with 5 to spare", 0, school.feast());
        Check.statutes(school, "age 0 20;wear 9;spare 4;");
        due("nothing changes before the feast", 0, Check.look(school, 1, 4));
        due("with 4 to spare", 20, school.feast());
        due("the new one", 1, Check.look(school, 1, 4));
        due("the old one hangs", NONE, school.coat(0, 3));
    }

    /** "one each". */
    private static void oneEach() {
        BlueCoats school = hung(20);
        bring(school, 20, 20, 19);
        due("one coat for three", 39, school.feast());
        coats("one each", school, 1, 0, 1, 2);
        BlueCoats many = hung(20, 20, 20, 20);
        bring(many, 20);
        due("four coats for one", 0, many.feast());
        int had = 0;
        for (int coat = 0; coat < 4; coat++) {
            had += many.coat(coat, 3) == NONE ? 0 : 1;
        }
        due("one is had", 1, had);
    }

    /** "such that the CLOTH cut is least": the greater child gets the old one, whatever its number. */
    private static void leastCloth() {
        BlueCoats school = hung(22);
        Check.statutes(school, "age 0 20;wear 9;spare 9;");
        bring(school, 13, 20, 22, 21);
        due("all but the greatest", 13 + 20 + 21, school.feast());
        coats("the greatest has it", school, 1, 1, 2, 0, 3);
        BlueCoats two = hung(22, 14);
        Check.statutes(two, "age 0 20;wear 9;spare 9;");
        bring(two, 13, 14, 22);
        due("two small ones are less than a great one", 13, two.feast());
        coats("the greater two", two, 2, 2, 1, 0);
    }

    /** "such that the CLOTH cut is least": one takes another coat that it FITS, so that a second gets one. */
    private static void leastClothByMoving() {
        BlueCoats school = hung(20, 25, 30);
        Check.statutes(school, "age 0 20;wear 9;spare 5;");
        bring(school, 20, 25, 15, 26);
        due("one new one of four", 15, school.feast());
        coats("each but the least", school, 3, 0, 1, 3, 2);
        BlueCoats chain = hung(30, 25, 20);
        Check.statutes(chain, "age 0 20;wear 9;spare 5;");
        bring(chain, 25, 20, 20);
        due("none at all", 0, chain.feast());
        coats("each moves on", chain, 3, 0, 1, 2);
    }

    /** "of several the one in which the child with the least number that differs gets an old one". */
    private static void leastNumberGetsOldOne() {
        BlueCoats school = hung(20, 20);
        bring(school, 20, 20, 20, 20);
        due("two new ones", 40, school.feast());
        coats("the lesser numbers have the old ones", school, 2, 0, 1, 2, 3);
    }

    /** "the child with the least number that differs": among those of one SIZE, each SIZE for itself. */
    private static void leastNumberThatDiffers() {
        BlueCoats school = hung(24, 12);
        Check.statutes(school, "age 0 20;wear 9;spare 9;");
        bring(school, 18, 11, 18, 12);
        due("one of 18, one of 11", 18 + 11, school.feast());
        coats("18 with the lesser number, and 12", school, 2, 0, 2, 3, 1);
        BlueCoats other = hung(20, 30);
        Check.statutes(other, "age 0 20;wear 9;spare 0;");
        bring(other, 30, 20, 20, 30);
        due("one of each", 50, other.feast());
        coats("of each the lesser number", other, 2, 1, 0, 2, 3);
    }

    /** "of the children with old ones in order of numbers each gets the coat with the least number". */
    private static void leastCoat() {
        BlueCoats school = hung(22, 21, 20);
        Check.statutes(school, "age 0 20;wear 9;spare 2;");
        bring(school, 20, 20, 20);
        due("nothing to cut", 0, school.feast());
        coats("by number, not by size", school, 3, 0, 1, 2);
        due("again", 0, school.feast());
        coats("and again so", school, 3, 0, 1, 2);
    }

    /** "that still lets all others behind it have one". */
    private static void leastCoatThatLetsOthers() {
        BlueCoats school = hung(22, 20, 21);
        Check.statutes(school, "age 0 20;wear 9;spare 2;");
        bring(school, 20, 21, 22);
        due("nothing to cut", 0, school.feast());
        coats("each leaves what those behind need", school, 3, 1, 2, 0);
        BlueCoats free = hung(22, 20, 22, 21);
        Check.statutes(free, "age 0 20;wear 9;spare 2;");
        bring(free, 20, 22);
        due("nothing to cut", 0, free.feast());
        coats("there is another one of 22", free, 4, 0, 2);
        BlueCoats undressed = hung(22);
        Check.statutes(undressed, "age 0 20;wear 9;spare 2;");
        bring(undressed, 20, 22);
        due("the lesser one is cut", 20, undressed.feast());
        coats("who gets a new one lets the other have it", undressed, 1, 1, 0);
    }

    /** "new ones are numbered in order of the children's numbers": not in order of sizes or of coming in. */
    private static void newOnesInOrder() {
        BlueCoats school = Check.school(OPEN);
        school.child(1, 1, 20, 0);
        school.child(1, 3, 40, 0);
        school.child(1, 2, 30, 0);
        due("the greatest need", 1, school.fill());
        due("the next", 2, school.fill());
        due("the first", 0, school.fill());
        due("cloth", 90, school.feast());
        coats("by number", school, 0, 0, 1, 2);
    }

    /** "as much CLOTH": up to the greatest SIZE, 99, for eight children. */
    private static void greatestSize() {
        BlueCoats school = Check.school("age 0 20;wear 9;spare 9;");
        for (int i = 0; i < 8; i++) {
            school.child(1, 0, 60, 4);
            school.fill();
        }
        for (int i = 0; i < 11; i++) {
            school.year();
        }
        due("99 each", 8 * 99, school.feast());
        due("its size", 99, school.coat(7, 0));
        due("they fit", 0, school.feast());
    }

    /** A school of eight in which so many of 40 coats were cut, those of the last feast not gone. */
    private static BlueCoats eightWithCoats(int feasts) {
        BlueCoats school = Check.school("age 0 20;wear 1;");
        bring(school, 20, 21, 22, 23, 24, 25, 26, 27);
        for (int i = 0; i < feasts; i++) {
            if (i > 0) {
                school.year();
            }
            school.feast();
        }
        return school;
    }

    /** "COATS, at most 40 ever": 40 there can be, gone ones among them. */
    private static void fortyCoats() {
        BlueCoats school = eightWithCoats(4);
        school.year();
        due("32", 32, school.count(3));
        due("8 more", 20 + 21 + 22 + 23 + 24 + 25 + 26 + 27, school.feast());
        due("40", 40, school.count(3));
        due("the last one", 27, school.coat(39, 0));
        due("child 7 has it", 7, school.coat(39, 3));
        due("none beyond", NONE, school.coat(40, 0));
        due("a feast without a new one", 0, school.feast());
        due("32 are gone", 1, school.coat(31, 2));
        due("the 33rd is not", 0, school.coat(32, 2));
    }

    /** "If there would be more than 40 coats: refused", "NONE: refused": then nothing changes. */
    private static void moreThanForty() {
        BlueCoats school = eightWithCoats(5);
        school.year();
        due("8 more than 40", NONE, school.feast());
        // a second school without that feast: two pictures of 40 coats are more than an object's 512 calls
        BlueCoats twin = eightWithCoats(5);
        twin.year();
        Check.same("nothing changes", Check.picture(twin), Check.picture(school));
    }

    /** "more than 40": with 39 one more is cut, two more are not, nor one for the two. */
    private static void refusedByOne() {
        BlueCoats school = Check.school("age 0 20;wear 1;places 8;");
        bring(school, 20, 21, 22, 23, 24, 25, 26);
        for (int i = 0; i < 5; i++) {
            school.feast();
            school.year();
        }
        due("35", 35, school.count(3));
        Check.statutes(school, "age 0 1;");
        school.year();
        Check.statutes(school, "age 0 20;wear 9;spare 0;");
        bring(school, 30, 31, 32, 33);
        due("four more", 126, school.feast());
        due("39", 39, school.count(3));
        bring(school, 40, 41);
        due("two more are too many", NONE, school.feast());
        coats("they keep what they have, and get nothing", school, 7, 35, 36, 37, 38, NONE, NONE);
        due("39 still", 39, school.count(3));
        Check.statutes(school, "age 0 1;wear 9;");
        due("all are bound", 6, school.year());
        Check.statutes(school, "age 0 20;wear 9;spare 0;");
        bring(school, 40);
        due("one more is not", 40, school.feast());
        due("40", 40, school.count(3));
    }

    /** "If there would be more than 40": a refused FEAST leaves each its coat, even one that FITS no more. */
    private static void refusedForGood() {
        BlueCoats school = Check.school("age 0 20;wear 1;");
        school.child(1, 9, 20, 0);
        school.child(1, 8, 40, 1);
        for (int i = 0; i < 6; i++) {
            school.child(1, 0, 50, 0);
        }
        for (int i = 0; i < 8; i++) {
            school.fill();
        }
        for (int i = 0; i < 5; i++) {
            school.feast();
            if (i < 4) {
                school.year();
            }
        }
        Check.statutes(school, "age 0 20;wear 9;");
        school.year();
        due("one is grown out of its coat", 45, Check.look(school, 1, 2));
        due("which is of 44", 44, school.coat(33, 0));
        due("refused", NONE, school.feast());
        due("it keeps it", 33, Check.look(school, 1, 4));
        due("who has it", 1, school.coat(33, 3));
        due("refused again", NONE, school.feast());
    }

    /** "NONE if there is none such": no such coat. */
    private static void noSuchCoat() {
        BlueCoats school = new BlueCoats();
        for (int what = -1; what <= 4; what++) {
            due("no coat at all", NONE, school.coat(0, what));
        }
        BlueCoats hung = hung(20, 30);
        for (int what = 0; what < 4; what++) {
            due("coat -1", NONE, hung.coat(-1, what));
            due("coat 2", NONE, hung.coat(2, what));
            for (int coat : new int[] {Integer.MIN_VALUE, -2, 39, 40, 41, 65536, Integer.MAX_VALUE}) {
                due("coat " + coat, NONE, hung.coat(coat, what));
            }
        }
        due("the last there is", 30, hung.coat(1, 0));
    }

    /** "NONE if there is none such": no such what. */
    private static void noSuchWhat() {
        BlueCoats school = Check.school(OPEN);
        bring(school, 20);
        school.feast();
        for (int what : new int[] {Integer.MIN_VALUE, -2, -1, 4, 5, 256, Integer.MAX_VALUE}) {
            due("what " + what, NONE, school.coat(0, what));
        }
        due("the last there is", 0, school.coat(0, 3));
    }
}
