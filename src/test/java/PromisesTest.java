/** Each promise of the document by hand-written runs: ordinary inputs, edges, wrong inputs. */
public final class PromisesTest {
    private static final int NONE = BlueCoats.NONE;

    public static void main(String[] args) {
        newObject();
        feed();
        statutesLines();
        statutesTape();
        withoutLines();
        textEnds();
        faultTokens();
        faultNumbers();
        faultOrder();
        giver();
        gift();
        support();
        child();
        fillPlaces();
        fillByTurn();
        fillByVote();
        fillByNeed();
        yearOfChildren();
        yearOfCoats();
        feastSaves();
        feastTies();
        feastByWhich();
        feastRefused();
        legacy();
        need();
        owed();
        proof();
        pay();
        allAreThere();
        look();
        coat();
        count();
        Check.end();
    }

    private static BlueCoats school(String text) {
        return Check.school(text);
    }

    private static void due(String what, long want, long got) {
        Check.due(what, want, got);
    }

    /** Promise 1. */
    private static void newObject() {
        BlueCoats school = new BlueCoats();
        int[] counts = {0, 0, 0, 0, 0, 0, 2, 0};
        for (int what = 0; what < counts.length; what++) {
            due("new: count " + what, counts[what], school.count(what));
        }
        due("new: fault 0", 0, school.fault(0));
        due("new: fault 1", NONE, school.fault(1));
        due("new: the tape is empty", -2, school.statutes(1));
        due("new: owed 0 5", 0, school.owed(0, 5));
        due("new: owed 1 0", NONE, school.owed(1, 0));
        due("new: short", 0, school.owed(2, 0));
        due("new: proof", 0, school.owed(3, 0));
        due("new: look", Check.NO_CHILD, Check.look(school, 0, 0));
        due("new: coat", NONE, school.coat(0, 0));
    }

    /** Promise 2. */
    private static void feed() {
        BlueCoats school = new BlueCoats();
        for (int i = 1; i <= 15; i++) {
            due("feed " + i, 20 * i, school.feed(0x3b20200a, -1, 0, 1, 2));
        }
        due("feed beyond 300", NONE, school.feed(0, 0, 0, 0, 0));
        due("none came", -2, school.statutes(301));
        due("300 are there", NONE, school.statutes(300));
        due("the highest byte comes first", 0, school.fault(1));
        due("feed anew", 20, school.feed(0x20202061, 0x67652037, 0x2039203b, 0, 0));
        due("bytes of several numbers", 1, school.statutes(12));
        Check.feed(school, "wear 3;             spare 4;");
        due("feeds go behind one another", 2, school.statutes(28));
    }

    /** Promise 3. */
    private static void statutesLines() {
        due("no lines", 0, Check.statutes(new BlueCoats(), ""));
        due("blanks alone", 0, Check.statutes(new BlueCoats(), " \n \n"));
        due("one line", 1, Check.statutes(new BlueCoats(), "wear 9;"));
        due("six lines", 6, Check.statutes(new BlueCoats(),
                "places 8;\nspare 0;\nwear 1;\nage 0 20;\nvote 9999;\ncycle need vote turn need vote turn need vote;"));
        due("blanks only where they must be", 3, Check.statutes(new BlueCoats(), "vote1;age0 0;cycle turn;"));
        due("zeros before", 1, Check.statutes(new BlueCoats(), "vote 00000000000000000000009999;"));
        due("vote is a line and a way", 2, Check.statutes(new BlueCoats(), "cycle vote vote;vote 1;"));
    }

    private static void statutesTape() {
        BlueCoats school = new BlueCoats();
        Check.feed(school, "places 1;xxxxxxxxxxx");
        due("too many", -2, school.statutes(21));
        due("below 0", -2, school.statutes(-1));
        due("least of all", -2, school.statutes(Integer.MIN_VALUE));
        due("most of all", -2, school.statutes(Integer.MAX_VALUE));
        due("the tape stayed", 1, school.statutes(9));
        due("the tape is empty then", -2, school.statutes(1));
        due("empty with a fault too", NONE, Check.statutes(school, "places 3;?"));
        due("empty behind the fault", -2, school.statutes(1));
        fillIn(school, 2);
        due("with a fault the old ones stay: 1 place", 1, school.count(2));
        due("none at all", 0, school.statutes(0));
        due("8 places again", 1, school.fill());
        cycleComesAnew();
    }

    /** What holds without a line: cycle need, vote 100, age 7 14, wear 3, spare 1, places 8. */
    private static void withoutLines() {
        BlueCoats school = new BlueCoats();
        Check.statutes(school, "cycle vote;vote 1;age 0 0;wear 1;spare 9;places 1;");
        due("no lines", 0, Check.statutes(school, " "));
        due("cycle need", 2, school.count(6));
        school.giver();
        school.child(6, 9, 20, 0);
        school.child(14, 9, 20, 0);
        school.child(13, 2, 19, 0);
        school.child(7, 1, 18, 0);
        school.support(0, 0);
        school.gift(0, 99);
        due("99 coins are no vote", 0, Check.look(school, 0, 5));
        school.gift(0, 1);
        due("100 coins are one", 1, Check.look(school, 0, 5));
        due("13 is not too old", 2, school.fill());
        due("the cycle has one way", 2, school.count(6));
        due("a coat of 19", 19, school.feast());
        due("14 is", 1, school.year());
        due("7 is not too young", 0, school.fill());
        due("nor was the other", 3, school.fill());
        due("14 and 15 are too old", NONE, school.fill());
        due("19 is one more than 18, but 20 needs a new one", 20, school.feast());
        school.year();
        due("worn for two years", 0, school.coat(0, 2));
        school.year();
        due("for three", 1, school.coat(0, 2));
        for (int i = 0; i < 7; i++) {
            school.child(7, 0, 20, 0);
        }
        for (int i = 4; i < 10; i++) {
            due("a place", i, school.fill());
        }
        due("8 places", NONE, school.fill());
    }

    /** Bytes behind the first n are no part of the text. */
    private static void textEnds() {
        String[] tapes = {"vote 12345;", "cycle turn;", "age 7 10   ;"};
        int[] ends = {7, 8, 9};
        int[] places = {7, 6, 9};
        for (int i = 0; i < tapes.length; i++) {
            BlueCoats school = new BlueCoats();
            Check.feed(school, tapes[i]);
            due("cut off: " + tapes[i], NONE, school.statutes(ends[i]));
            due("its fault", 1, school.fault(0));
            due("its place", places[i], school.fault(1));
        }
        BlueCoats school = new BlueCoats();
        Check.feed(school, "wear 3;wear");
        due("the second line is not read", 1, school.statutes(7));
    }

    private static void fillIn(BlueCoats school, int children) {
        for (int i = 0; i < children; i++) {
            school.child(10, 0, 20, 0);
            school.fill();
        }
    }

    private static void cycleComesAnew() {
        BlueCoats school = school("cycle need vote;");
        fillIn(school, 1);
        due("the second way is next", 1, school.count(6));
        Check.statutes(school, "cycle need turn");
        due("a fault leaves the way that is next", 1, school.count(6));
        school.statutes(4);
        due("so does -2", 1, school.count(6));
        Check.statutes(school, "cycle turn vote;");
        due("new statutes begin with the first way", 0, school.count(6));
    }

    private static void fault(String text, int what, int place) {
        BlueCoats school = new BlueCoats();
        due("statutes of '" + text + "'", NONE, Check.statutes(school, text));
        due("fault of '" + text + "'", what, school.fault(0));
        due("place of '" + text + "'", place, school.fault(1));
    }

    /** Promise 4. */
    private static void faultTokens() {
        fault(";", 1, 0);
        fault("  ;", 1, 2);
        fault("7;", 1, 0);
        fault("turn 1;", 1, 0);
        fault("Vote 1;", 1, 0);
        fault("votes 1;", 1, 0);
        fault("vot 1;", 1, 0);
        fault("votez 1;", 1, 0);
        fault("avote 1;", 1, 0);
        fault("vote\t1;", 1, 4);
        fault("vote " + (char) 255 + ";", 1, 5);
        fault("vote -1;", 1, 5);
        fault("vote ;", 1, 5);
        fault("vote need;", 1, 5);
        fault("vote 1 2;", 1, 7);
        fault("vote 1 vote 2;", 1, 7);
        fault("vote 1;;", 1, 7);
        fault("age 7;", 1, 5);
        fault("age 7 14 15;", 1, 9);
        fault("cycle;", 1, 5);
        fault("cycle 1;", 1, 6);
        fault("cycle wear;", 1, 6);
        fault("cycle turn needs;", 1, 11);
        fault("cycleturn;", 1, 0);
        fault("vote", 1, 4);
        fault("vote  ", 1, 6);
        fault("vote 1", 1, 6);
        fault("vote 1 \n", 1, 8);
        fault("age 7", 1, 5);
        fault("cycle", 1, 5);
        fault("cycle turn", 1, 10);
        fault("cycle turn vote need turn vote need turn vote", 1, 45);
    }

    private static void faultNumbers() {
        fault("vote 0;", 2, 5);
        fault("vote 10000;", 2, 5);
        fault("vote 4294967297;", 2, 5);
        fault("vote 18446744073709551617;", 2, 5);
        fault("age 21 21;", 2, 4);
        fault("age 7 21;", 2, 6);
        fault("age 7 6;", 2, 6);
        fault("wear 0;", 2, 5);
        fault("wear 10;", 2, 5);
        fault("spare 10;", 2, 6);
        fault("places 0;", 2, 7);
        fault("places 9;", 2, 7);
        fault("cycle turn vote need turn vote need turn vote need;", 2, 46);
        fault("cycle turn vote need turn vote need turn vote wear;", 1, 46);
        fault("wear 3;wear 3;", 3, 7);
        fault("cycle need; vote 3; cycle", 3, 20);
        fault("vote 3; vote 0;", 3, 8);
    }

    private static void faultOrder() {
        fault("vote 0", 2, 5);
        fault("vote 0 ? wear", 2, 5);
        fault("vote ? vote 0", 1, 5);
        fault("wear 3 99;", 1, 7);
        BlueCoats school = new BlueCoats();
        Check.statutes(school, "vote 0;");
        school.statutes(5);
        due("-2 leaves the fault", 2, school.fault(0));
        due("-2 leaves its place", 5, school.fault(1));
        due("fault -1", NONE, school.fault(-1));
        due("fault 2", NONE, school.fault(2));
        Check.statutes(school, "vote 1;");
        due("no fault", 0, school.fault(0));
        due("no fault's place", NONE, school.fault(1));
    }

    /** Promise 5. */
    private static void giver() {
        BlueCoats school = new BlueCoats();
        for (int i = 0; i < 8; i++) {
            due("giver", i, school.giver());
        }
        due("a ninth giver", NONE, school.giver());
        due("8 givers", 8, school.count(0));
    }

    /** Promise 6. */
    private static void gift() {
        BlueCoats school = new BlueCoats();
        due("nobody gives", NONE, school.gift(0, 1));
        school.giver();
        school.giver();
        due("giver -1", NONE, school.gift(-1, 1));
        due("giver 2", NONE, school.gift(2, 1));
        due("no coins", NONE, school.gift(0, 0));
        due("coins below 0", NONE, school.gift(0, -1));
        due("one coin", 1, school.gift(0, 1));
        due("all but one", 99998, school.gift(0, 99997));
        due("too many", NONE, school.gift(0, 2));
        due("far too many", NONE, school.gift(0, Integer.MAX_VALUE));
        due("the last one", 99999, school.gift(0, 1));
        due("no more", NONE, school.gift(0, 1));
        due("the other's are his own", 99999, school.gift(1, 99999));
    }

    /** Promise 7. */
    private static void support() {
        BlueCoats school = new BlueCoats();
        Check.due("nobody supports", false, school.support(0, NONE));
        school.giver();
        Check.due("no such child", false, school.support(0, 0));
        Check.due("none", true, school.support(0, NONE));
        school.child(10, 0, 10, 0);
        school.child(10, 0, 10, 0);
        school.gift(0, 250);
        Check.due("the first child", true, school.support(0, 0));
        due("votes for the first", 2, Check.look(school, 0, 5));
        Check.due("the second child", true, school.support(0, 1));
        due("one child at most", 0, Check.look(school, 0, 5));
        due("votes for the second", 2, Check.look(school, 1, 5));
        Check.due("a third child", false, school.support(0, 2));
        Check.due("child -2", false, school.support(0, -2));
        Check.due("giver 1", false, school.support(1, 0));
        Check.due("giver -1", false, school.support(-1, 0));
        due("false changes nothing", 2, Check.look(school, 1, 5));
        school.support(0, NONE);
        due("none takes the votes away", 0, Check.look(school, 1, 5));
    }

    /** Promise 8. */
    private static void child() {
        BlueCoats school = new BlueCoats();
        int[][] wrong = {{-1, 0, 10, 0}, {21, 0, 10, 0}, {0, -1, 10, 0}, {0, 100, 10, 0},
            {0, 0, 9, 0}, {0, 0, 61, 0}, {0, 0, 10, -1}, {0, 0, 10, 5}};
        for (int[] w : wrong) {
            due("it can't be", NONE, school.child(w[0], w[1], w[2], w[3]));
        }
        due("none came", 0, school.count(1));
        due("the least", 0, school.child(0, 0, 10, 0));
        due("the greatest", 1, school.child(20, 99, 60, 4));
        for (int i = 2; i < 16; i++) {
            due("child", i, school.child(7, 7, 17, 1));
        }
        due("a seventeenth", NONE, school.child(7, 7, 17, 1));
        int[] first = {0, 0, 10, 0, NONE, 0};
        int[] second = {20, 99, 60, 0, NONE, 0};
        for (int what = 0; what < 6; what++) {
            due("the least: " + what, first[what], Check.look(school, 0, what));
            due("the greatest: " + what, second[what], Check.look(school, 1, what));
        }
    }

    /** Promise 9. */
    private static void fillPlaces() {
        BlueCoats school = school("places 2;age 5 8;");
        due("nobody waits", NONE, school.fill());
        school.child(4, 9, 10, 0);
        school.child(8, 9, 10, 0);
        due("too young, too old", NONE, school.fill());
        school.child(5, 1, 10, 0);
        school.child(7, 2, 10, 0);
        school.child(6, 0, 10, 0);
        due("the first place", 3, school.fill());
        due("the second place", 2, school.fill());
        due("no place is open", NONE, school.fill());
        Check.statutes(school, "places 3;age 5 8;");
        due("a third place", 4, school.fill());
        Check.statutes(school, "places 1;age 0 20;");
        due("more are in than places", NONE, school.fill());
        due("all stay in", 3, school.count(2));
    }

    private static void fillByTurn() {
        BlueCoats school = school("cycle turn;");
        school.child(10, 0, 10, 0);
        school.child(10, 0, 10, 0);
        school.child(20, 0, 10, 0);
        due("no giver", NONE, school.fill());
        school.giver();
        school.giver();
        school.giver();
        due("nobody supports", NONE, school.fill());
        due("the first giver is still next", 0, school.count(5));
        school.support(0, 2);
        school.support(2, 1);
        due("past one whose child is too old", 1, school.fill());
        due("behind the last comes the first", 0, school.count(5));
        due("a child in the school comes no more", NONE, school.fill());
        due("nothing changed", 0, school.count(5));
        school.support(0, 0);
        school.support(1, 0);
        due("the first giver's child", 0, school.fill());
        due("the second giver is next", 1, school.count(5));
        school.child(10, 0, 10, 0);
        school.support(0, 3);
        due("once round", 3, school.fill());
        due("the second again", 1, school.count(5));
    }

    private static void fillByVote() {
        BlueCoats school = school("cycle vote;vote 10;");
        for (int i = 0; i < 5; i++) {
            school.child(10, i == 3 ? 5 : 4, 10, 0);
        }
        for (int i = 0; i < 6; i++) {
            school.giver();
        }
        school.gift(0, 9);
        school.support(0, 0);
        school.gift(1, 9);
        school.support(1, 0);
        due("each giver's votes are cut", NONE, school.fill());
        school.gift(2, 19);
        school.support(2, 1);
        school.gift(3, 10);
        school.support(3, 3);
        school.gift(4, 10);
        school.support(4, 4);
        school.gift(5, 11);
        school.support(5, 4);
        due("the most votes", 4, school.fill());
        due("of like ones the greater need", 3, school.fill());
        school.support(4, 2);
        due("then the lesser number", 1, school.fill());
        due("then the other", 2, school.fill());
        due("1 vote at least", NONE, school.fill());
        Check.statutes(school, "cycle vote;vote 9;");
        due("votes are cheaper now", 0, school.fill());
    }

    private static void fillByNeed() {
        BlueCoats school = school("cycle need turn;age 0 20;");
        int[] needs = {3, 99, 0, 99};
        for (int need : needs) {
            school.child(20 - need / 5, need, 10, 0);
        }
        due("a child of 20 is too old, the greatest need", 1, school.fill());
        due("the next way", 0, school.count(6));
        due("nobody comes by turn", NONE, school.fill());
        due("the way stays", 0, school.count(6));
        school.giver();
        school.support(0, 0);
        due("too old", NONE, school.fill());
        school.support(0, 3);
        due("by turn", 3, school.fill());
        due("the first way behind the last", 2, school.count(6));
        due("nobody is left but those of 20", NONE, school.fill());
    }

    /** Promise 10. */
    private static void yearOfChildren() {
        BlueCoats school = school("age 0 12;");
        school.child(10, 1, 60, 4);
        school.child(11, 0, 20, 0);
        school.child(20, 0, 10, 1);
        due("in", 0, school.fill());
        due("in", 1, school.fill());
        due("cloth", 80, school.feast());
        due("one comes of age", 1, school.year());
        due("bound", 2, Check.look(school, 1, 3));
        due("its coat is handed in", NONE, Check.look(school, 1, 4));
        due("nobody has it", NONE, school.coat(1, 3));
        due("the other is in", 1, Check.look(school, 0, 3));
        due("and has its coat", 0, Check.look(school, 0, 4));
        due("it grows", 64, Check.look(school, 0, 2));
        due("the other", 1, school.year());
        due("nobody is in", 0, school.count(2));
        due("who only waits is never bound", 0, Check.look(school, 2, 3));
        for (int i = 0; i < 100; i++) {
            due("nobody more", 0, school.year());
        }
        due("the oldest age", 99, Check.look(school, 0, 0));
        due("the greatest size", 99, Check.look(school, 0, 2));
        due("who waits grows older too", 99, Check.look(school, 2, 0));
        due("and greater", 99, Check.look(school, 2, 2));
        due("without growth none grows", 20, Check.look(school, 1, 2));
        due("years", 102, school.count(7));
        boundByNewStatutes();
    }

    private static void boundByNewStatutes() {
        BlueCoats school = school("age 0 20;");
        school.child(15, 0, 10, 0);
        school.fill();
        Check.statutes(school, "age 0 3;");
        due("new statutes bind nobody by themselves", 1, school.count(2));
        due("who is past the age is bound with the year", 1, school.year());
    }

    private static void yearOfCoats() {
        BlueCoats school = school("wear 2;age 0 20;");
        school.child(1, 0, 20, 0);
        school.fill();
        due("cut", 20, school.feast());
        school.year();
        due("a year worn", 1, school.coat(0, 1));
        due("not gone", 0, school.coat(0, 2));
        due("handed out again", 0, school.feast());
        Check.statutes(school, "wear 1;age 0 20;");
        due("new statutes wear nothing by themselves", 0, school.coat(0, 2));
        Check.statutes(school, "wear 2;age 0 20;");
        school.year();
        due("gone", 1, school.coat(0, 2));
        due("nobody has it", NONE, school.coat(0, 3));
        due("the child has none", NONE, Check.look(school, 0, 4));
        Check.statutes(school, "wear 9;age 0 20;");
        school.year();
        due("what is gone stays gone", 1, school.coat(0, 2));
        due("all coats wear, gone ones too", 3, school.coat(0, 1));
        due("a new one", 20, school.feast());
        due("its number", 1, Check.look(school, 0, 4));
    }

    /** Children of these sizes, who come in in this order. */
    private static void bring(BlueCoats school, int... sizes) {
        for (int size : sizes) {
            school.child(1, 0, size, 0);
            school.fill();
        }
    }

    private static void haveCoats(String what, BlueCoats school, int... coats) {
        for (int child = 0; child < coats.length; child++) {
            due(what + ", child " + child, coats[child], Check.look(school, child, 4));
        }
    }

    /** Cuts a coat for a child and binds it out, so that the coat hangs there free. */
    private static void hang(BlueCoats school, int... sizes) {
        for (int size : sizes) {
            Check.statutes(school, "age 0 20;wear 9;spare 0;");
            school.child(1, 0, size, 0);
            school.fill();
            school.feast();
        }
        Check.statutes(school, "age 0 0;wear 9;");
        school.year();
    }

    /** Promise 11. */
    private static void feastSaves() {
        BlueCoats school = school("age 0 20;spare 2;wear 9;");
        due("nobody to dress", 0, school.feast());
        bring(school, 20, 18, 16);
        due("new ones", 54, school.feast());
        haveCoats("new ones in order", school, 0, 1, 2);
        due("nothing to cut", 0, school.feast());
        haveCoats("each keeps its own, the least that lets the others", school, 0, 1, 2);
        bring(school, 14);
        due("a chain would cut 20, so the small one gets a new one", 14, school.feast());
        haveCoats("the new coat", school, 0, 1, 2, 3);

        BlueCoats other = new BlueCoats();
        hang(other, 20, 22);
        Check.statutes(other, "age 0 20;spare 2;wear 9;");
        bring(other, 18, 21, 20, 23, 17);
        due("the greater ones get the old coats", 18 + 23 + 17, other.feast());
        due("20 gets the coat of 20", 0, Check.look(other, 4, 4));
        due("21 gets the coat of 22", 1, Check.look(other, 3, 4));
        due("new coats come in order of numbers", 2, Check.look(other, 2, 4));
        due("the second new one", 3, Check.look(other, 5, 4));
        due("the third new one", 4, Check.look(other, 6, 4));
        due("of its size", 23, other.coat(3, 0));
    }

    private static void feastTies() {
        BlueCoats school = new BlueCoats();
        hang(school, 21);
        Check.statutes(school, "age 0 20;spare 1;wear 9;");
        bring(school, 20, 20, 20);
        due("two new ones", 40, school.feast());
        due("the least number gets the old one", 0, Check.look(school, 1, 4));
        due("then a new one", 1, Check.look(school, 2, 4));
        due("then a new one", 2, Check.look(school, 3, 4));

        BlueCoats exact = new BlueCoats();
        hang(exact, 25, 31, 19);
        Check.statutes(exact, "age 0 20;spare 5;wear 9;");
        bring(exact, 25, 20, 26, 25);
        due("25 fits one of 20 to 25 and no one of 19 or 26", 20 + 25, exact.feast());
        due("the first of 25", 0, Check.look(exact, 3, 4));
        due("31 is for 26", 1, Check.look(exact, 5, 4));
    }

    private static void feastByWhich() {
        BlueCoats school = new BlueCoats();
        hang(school, 23, 21, 22, 20);
        Check.statutes(school, "age 0 20;spare 3;wear 9;");
        bring(school, 20, 20, 23);
        due("nothing to cut", 0, school.feast());
        due("coat 0 is needed behind, so the least of the others", 1, Check.look(school, 4, 4));
        due("the next", 2, Check.look(school, 5, 4));
        due("the only one that fits", 0, Check.look(school, 6, 4));
        due("one is left", NONE, school.coat(3, 3));
    }

    private static void feastRefused() {
        BlueCoats school = school("age 0 20;wear 1;");
        bring(school, 20, 20, 20, 20, 20, 20, 20, 20);
        for (int i = 0; i < 4; i++) {
            due("8 new ones", 160, school.feast());
            school.year();
        }
        due("the last 8", 160, school.feast());
        due("40 coats", 40, school.count(3));
        due("old ones still do", 0, school.feast());
        Check.statutes(school, "age 0 1;wear 9;");
        school.year();
        due("all are bound", 0, school.count(2));
        Check.statutes(school, "age 0 20;wear 9;spare 0;");
        school.child(1, 0, 20, 0);
        school.fill();
        due("the old coats are free", 0, school.feast());
        due("a coat", 32, Check.look(school, 8, 4));
        school.child(1, 0, 21, 0);
        school.fill();
        due("a 41st is refused", NONE, school.feast());
        due("nothing changes: the coat stays", 32, Check.look(school, 8, 4));
        due("nothing changes: who has it", 8, school.coat(32, 3));
        due("nothing is cut", 40, school.count(3));
        due("the new child has none", NONE, Check.look(school, 9, 4));
    }

    /** Promise 12. */
    private static void legacy() {
        BlueCoats school = new BlueCoats();
        due("coins below 0", NONE, school.legacy(-1, 1));
        due("too many coins", NONE, school.legacy(10000, 1));
        due("ends below 0", NONE, school.legacy(1, -1));
        due("a seventh end", NONE, school.legacy(1, 64));
        due("the least", 0, school.legacy(0, 0));
        due("the most", 1, school.legacy(9999, 63));
        for (int i = 2; i < 8; i++) {
            due("a legacy", i, school.legacy(i, i));
        }
        due("a ninth", NONE, school.legacy(1, 1));
        due("8 legacies", 8, school.count(4));
    }

    /** Promise 13. */
    private static void need() {
        BlueCoats school = new BlueCoats();
        Check.due("end -1", false, school.need(-1, 1));
        Check.due("end 6", false, school.need(6, 1));
        Check.due("below 0", false, school.need(0, -1));
        Check.due("too much", false, school.need(0, 10000));
        due("nothing is needed", 0, school.owed(2, 0));
        Check.due("the last end", true, school.need(5, 9999));
        due("short", 9999, school.owed(2, 0));
        Check.due("it becomes so much", true, school.need(5, 7));
        due("short", 7, school.owed(2, 0));
        Check.due("nothing again", true, school.need(5, 0));
        due("not short", 0, school.owed(2, 0));
    }

    /** Promise 14. */
    private static void owed() {
        BlueCoats school = new BlueCoats();
        school.legacy(10, 0b11);
        school.legacy(10, 0b01);
        school.need(0, 12);
        school.need(1, 9);
        int[] toEnds = {12, 8, 0, 0, 0, 0};
        for (int end = 0; end < 6; end++) {
            due("to end " + end, toEnds[end], school.owed(0, end));
        }
        due("from 0", 10, school.owed(1, 0));
        due("from 1", 10, school.owed(1, 1));
        due("short", 1, school.owed(2, -7));
        due("proof", 3, school.owed(3, 99));
        due("end -1", NONE, school.owed(0, -1));
        due("end 6", NONE, school.owed(0, 6));
        due("legacy -1", NONE, school.owed(1, -1));
        due("legacy 2", NONE, school.owed(1, 2));
        due("what -1", NONE, school.owed(-1, 0));
        due("what 4", NONE, school.owed(4, 0));
        due("owed pays nothing", 20, school.pay());
        owedInOrder();
    }

    private static void owedInOrder() {
        BlueCoats school = new BlueCoats();
        school.legacy(5, 0b110);
        school.legacy(5, 0b010);
        school.legacy(5, 0b011);
        school.need(0, 5);
        school.need(1, 3);
        school.need(2, 5);
        due("all is paid: end 0", 5, school.owed(0, 0));
        due("end 1", 3, school.owed(0, 1));
        due("end 2", 5, school.owed(0, 2));
        due("legacy 0 pays most", 5, school.owed(1, 0));
        due("then legacy 1", 3, school.owed(1, 1));
        due("then legacy 2", 5, school.owed(1, 2));
        school.need(0, 1);
        school.need(2, 0);
        due("legacy 0 alone pays end 1", 3, school.owed(1, 0));
        due("nothing is left for legacy 1", 0, school.owed(1, 1));
        due("legacy 2 pays end 0", 1, school.owed(1, 2));
        school.need(1, 14);
        due("end 0 comes first", 1, school.owed(0, 0));
        due("end 1 gets the rest", 14, school.owed(0, 1));
        school.need(0, 4);
        due("of several ways end 0 gets most", 4, school.owed(0, 0));
        due("and end 1 less", 11, school.owed(0, 1));
    }

    private static void proof() {
        BlueCoats school = new BlueCoats();
        school.need(1, 4);
        school.need(3, 5);
        due("without legacies all is short", 9, school.owed(2, 0));
        due("both ends prove it", 0b1010, school.owed(3, 0));
        school.legacy(4, 0b0010);
        due("one is paid for", 5, school.owed(2, 0));
        due("of sets that prove it the least", 0b1000, school.owed(3, 0));
        school.legacy(5, 0b1000);
        due("nothing is short", 0, school.owed(2, 0));
        due("the empty set proves it", 0, school.owed(3, 0));
    }

    /** Promise 15. */
    private static void pay() {
        BlueCoats school = new BlueCoats();
        due("nothing to pay", 0, school.pay());
        school.legacy(9999, 0b100000);
        school.legacy(50, 0b100001);
        school.need(5, 9999);
        school.need(0, 60);
        due("pay", 9999 + 50, school.pay());
        due("the needs are less", 10, school.owed(2, 0));
        due("the end that lacks", 1, school.owed(3, 0));
        due("nothing more", 0, school.pay());
        school.need(5, 100);
        due("the coins are gone", 110, school.owed(2, 0));
        due("both lack now", 0b100001, school.owed(3, 0));
        due("legacy 0 pays nothing", 0, school.owed(1, 0));
    }

    /** As many givers, children and legacies as there can be. */
    private static void allAreThere() {
        BlueCoats school = school("cycle turn;");
        for (int i = 0; i < 16; i++) {
            school.child(10, i, 10 + i, 1);
        }
        for (int i = 0; i < 8; i++) {
            school.giver();
            school.gift(i, 100 * (i + 1));
            school.support(i, 15 - i);
            due("legacy", i, school.legacy(9999, 63));
        }
        for (int end = 0; end < 6; end++) {
            school.need(end, 9999);
        }
        for (int i = 0; i < 8; i++) {
            due("votes", i + 1, Check.look(school, 15 - i, 5));
            due("by turn", 15 - i, school.fill());
            due("what legacy " + i + " would pay", i < 6 ? 9999 : 0, school.owed(1, i));
        }
        due("cloth", 8 * 10 + 8 + 9 + 10 + 11 + 12 + 13 + 14 + 15, school.feast());
        due("all is paid", 6 * 9999, school.pay());
        due("a year", 0, school.year());
        due("the last has grown", 26, Check.look(school, 15, 2));
        due("none was there but these", 8, school.count(2));
    }

    /** Promise 16. */
    private static void look() {
        BlueCoats school = new BlueCoats();
        due("no child at all", Check.NO_CHILD, Check.look(school, 0, 0));
        school.child(13, 2, 33, 3);
        school.giver();
        school.giver();
        school.gift(0, 199);
        school.gift(1, 399);
        school.support(0, 0);
        school.support(1, 0);
        int[] waiting = {13, 2, 33, 0, NONE, 4};
        for (int what = 0; what < 6; what++) {
            due("waiting: " + what, waiting[what], Check.look(school, 0, what));
        }
        due("child -1", Check.NO_CHILD, Check.look(school, -1, 0));
        due("child 1", Check.NO_CHILD, Check.look(school, 1, 0));
        due("what -1", Check.NO_WHAT, Check.look(school, 0, -1));
        due("what 6", Check.NO_WHAT, Check.look(school, 0, 6));
        due("neither", Check.NO_CHILD, Check.look(school, 1, 6));
        school.fill();
        school.feast();
        due("in", 1, Check.look(school, 0, 3));
        due("its coat", 0, Check.look(school, 0, 4));
        school.year();
        int[] bound = {14, 2, 36, 2, NONE, 4};
        for (int what = 0; what < 6; what++) {
            due("bound: " + what, bound[what], Check.look(school, 0, what));
        }
        Check.statutes(school, "vote 50;");
        due("votes now", 3 + 7, Check.look(school, 0, 5));
    }

    /** Promise 17. */
    private static void coat() {
        BlueCoats school = new BlueCoats();
        due("no coat at all", NONE, school.coat(0, 0));
        school.child(7, 0, 44, 0);
        school.fill();
        school.feast();
        int[] cut = {44, 0, 0, 0};
        for (int what = 0; what < 4; what++) {
            due("cut: " + what, cut[what], school.coat(0, what));
        }
        due("what -1", NONE, school.coat(0, -1));
        due("what 4", NONE, school.coat(0, 4));
        due("coat -1", NONE, school.coat(-1, 0));
        due("coat 1", NONE, school.coat(1, 0));
        school.year();
        school.year();
        due("worn for two years", 2, school.coat(0, 1));
        due("still there", 0, school.coat(0, 2));
        school.year();
        int[] gone = {44, 3, 1, NONE};
        for (int what = 0; what < 4; what++) {
            due("gone: " + what, gone[what], school.coat(0, what));
        }
    }

    /** Promise 18. */
    private static void count() {
        BlueCoats school = school("cycle vote turn;vote 1;");
        school.giver();
        school.giver();
        for (int i = 0; i < 5; i++) {
            school.child(8, 0, 20, 0);
        }
        school.gift(0, 1);
        school.support(0, 3);
        school.support(1, 2);
        due("by vote", 3, school.fill());
        due("turn is next", 0, school.count(6));
        school.support(0, 1);
        due("by turn", 1, school.fill());
        school.feast();
        school.legacy(1, 1);
        school.legacy(1, 1);
        school.legacy(1, 1);
        for (int i = 0; i < 4; i++) {
            school.year();
        }
        int[] counts = {2, 5, 2, 2, 3, 1, 1, 4};
        for (int what = 0; what < counts.length; what++) {
            due("count " + what, counts[what], school.count(what));
        }
        due("count -1", NONE, school.count(-1));
        due("count 8", NONE, school.count(8));
    }
}
