/**
 * The edges of GIVERS, CHILDREN, PLACES and the YEAR ("Terms", part 2, promises 5 to 10 and 16): above
 * each method stands the document's sentence that it tests.
 */
public final class SchoolEdgesTest {
    private static final int NONE = BlueCoats.NONE;
    private static final int[] FAR = {Integer.MIN_VALUE, Integer.MIN_VALUE + 1, -100, -2, 100, 65536, Integer.MAX_VALUE};

    public static void main(String[] args) {
        eightGivers();
        gaveUpTo99999();
        giftsOfNone();
        giftOfNoSuchOne();
        giftBeyond();
        oneChildAtMost();
        supportOfNone();
        supportOfNoSuchOnes();
        votesAreCut();
        votesAtTheirEdges();
        sixteenChildren();
        childThatCanBe();
        childThatCannotBe();
        waitingInBound();
        placeIsOpen();
        moreInThanPlaces();
        placeAfterBound();
        nextWay();
        nobodyByWhatIsNext();
        agesToCome();
        turnFromNextOn();
        turnOnceRound();
        turnPastOthers();
        turnWithoutSuchChild();
        turnOfTheLastGiver();
        turnOfOneGiver();
        turnStays();
        voteForMost();
        voteOneAtLeast();
        voteOfLikeOnes();
        needOfLikeOnes();
        yearsUpTo99();
        sizesUpTo99();
        growthOfNone();
        comeToTheSecondAge();
        pastTheSecondAge();
        onlyWhoIsIn();
        handsInTheCoat();
        noSuchChild();
        noSuchWhat();
        Check.end();
    }

    private static void due(String what, long want, long got) {
        Check.due(what, want, got);
    }

    private static int look(BlueCoats school, int child, int what) {
        return Check.look(school, child, what);
    }

    private static void givers(BlueCoats school, int number) {
        for (int i = 0; i < number; i++) {
            school.giver();
        }
    }

    /** Children of age 10 with these needs. */
    private static void needy(BlueCoats school, int... needs) {
        for (int need : needs) {
            school.child(10, need, 20, 0);
        }
    }

    /** "GIVERS, at most 8, numbered from 0 on", "A GIVER: the number; NONE: there are 8". */
    private static void eightGivers() {
        BlueCoats school = new BlueCoats();
        for (int i = 0; i < 8; i++) {
            due("so many givers", i, school.count(0));
            due("giver", i, school.giver());
        }
        String before = Check.picture(school);
        due("a ninth", NONE, school.giver());
        due("a tenth", NONE, school.giver());
        Check.same("a giver too many changes nothing", before, Check.picture(school));
        due("the eighth gives", 5, school.gift(7, 5));
        due("a ninth gives nothing", NONE, school.gift(8, 5));
    }

    /** "all he GAVE (0 .. 99999)": up to it in one gift, in several, each giver for himself. */
    private static void gaveUpTo99999() {
        BlueCoats school = new BlueCoats();
        givers(school, 8);
        for (int i = 0; i < 8; i++) {
            due("all at once", 99999, school.gift(i, 99999));
        }
        BlueCoats other = new BlueCoats();
        other.giver();
        due("one", 1, other.gift(0, 1));
        due("all but one", 99998, other.gift(0, 99997));
        due("the last", 99999, other.gift(0, 1));
        due("beyond", NONE, other.gift(0, 1));
    }

    /** "(1 and more) .. NONE: .. coins": a gift of less than 1 is none. */
    private static void giftsOfNone() {
        BlueCoats school = new BlueCoats();
        school.giver();
        for (int coins : new int[] {0, -1, -99999, Integer.MIN_VALUE}) {
            due(coins + " coins", NONE, school.gift(0, coins));
        }
        due("he gave nothing before", 1, school.gift(0, 1));
        due("below 0 takes nothing back", NONE, school.gift(0, -1));
        due("he gave 1 before", 2, school.gift(0, 1));
    }

    /** "NONE: no such one". */
    private static void giftOfNoSuchOne() {
        BlueCoats school = new BlueCoats();
        due("no giver at all", NONE, school.gift(0, 1));
        givers(school, 2);
        due("giver -1", NONE, school.gift(-1, 1));
        due("giver 2", NONE, school.gift(2, 1));
        for (int giver : FAR) {
            due("giver " + giver, NONE, school.gift(giver, 1));
        }
        due("the first gave nothing", 1, school.gift(0, 1));
        due("nor did the second", 1, school.gift(1, 1));
        school.giver();
        due("a third gave nothing before he came", 3, school.gift(2, 3));
    }

    /** "NONE: .. it would be more than 99999": then he gave what he gave before. */
    private static void giftBeyond() {
        BlueCoats school = Check.school("vote 1;");
        school.giver();
        school.child(10, 0, 10, 0);
        school.support(0, 0);
        due("too many at once", NONE, school.gift(0, 100000));
        due("some", 50000, school.gift(0, 50000));
        due("one too many", NONE, school.gift(0, 50000));
        due("so many that a number wraps", NONE, school.gift(0, Integer.MAX_VALUE));
        due("and to 0", NONE, school.gift(0, Integer.MAX_VALUE - 49999));
        due("he gave what he gave", 50000, look(school, 0, 5));
        due("just as many as can be", 99999, school.gift(0, 49999));
        due("all", 99999, look(school, 0, 5));
    }

    /** "at most one child whom he SUPPORTS", "A GIVER SUPPORTS a child from now on". */
    private static void oneChildAtMost() {
        BlueCoats school = Check.school("vote 1;");
        givers(school, 2);
        needy(school, 0, 0);
        school.gift(0, 3);
        school.gift(1, 4);
        due("nobody at first", 0, look(school, 0, 5) + look(school, 1, 5));
        Check.due("the first", true, school.support(0, 0));
        Check.due("the same again", true, school.support(0, 0));
        due("his votes count once", 3, look(school, 0, 5));
        Check.due("the second", true, school.support(0, 1));
        due("the first no more", 0, look(school, 0, 5));
        due("the second now", 3, look(school, 1, 5));
        Check.due("another giver the same child", true, school.support(1, 1));
        due("both", 7, look(school, 1, 5));
    }

    /** "(NONE: none): true". */
    private static void supportOfNone() {
        BlueCoats school = Check.school("cycle turn;vote 1;");
        school.giver();
        Check.due("none before there is a child", true, school.support(0, NONE));
        needy(school, 0);
        school.gift(0, 3);
        due("nobody by turn", NONE, school.fill());
        school.support(0, 0);
        Check.due("none again", true, school.support(0, NONE));
        due("no votes", 0, look(school, 0, 5));
        due("nobody by turn again", NONE, school.fill());
    }

    /** "false: no such ones": no such giver, no such child, neither; then he SUPPORTS whom he did. */
    private static void supportOfNoSuchOnes() {
        BlueCoats school = Check.school("vote 1;");
        Check.due("no giver at all", false, school.support(0, NONE));
        school.giver();
        Check.due("no child at all", false, school.support(0, 0));
        needy(school, 0, 0);
        school.gift(0, 3);
        school.support(0, 1);
        Check.due("child 2", false, school.support(0, 2));
        Check.due("child -2", false, school.support(0, -2));
        Check.due("giver 1", false, school.support(1, 0));
        Check.due("giver -1", false, school.support(-1, 0));
        Check.due("giver 1 and none", false, school.support(1, NONE));
        Check.due("giver -1 and none", false, school.support(-1, NONE));
        Check.due("neither", false, school.support(1, 2));
        for (int far : FAR) {
            Check.due("giver " + far, false, school.support(far, 0));
            Check.due("child " + far, false, school.support(0, far));
        }
        due("whom he did", 3, look(school, 1, 5));
        due("and nobody else", 0, look(school, 0, 5));
        school.giver();
        school.gift(1, 5);
        due("who comes later supports nobody", 3, look(school, 0, 5) + look(school, 1, 5));
    }

    /** "His VOTES: what he gave by vote, cut": each giver's for himself. */
    private static void votesAreCut() {
        BlueCoats school = Check.school("vote 10;");
        givers(school, 3);
        needy(school, 0);
        for (int i = 0; i < 3; i++) {
            school.support(i, 0);
        }
        school.gift(0, 9);
        due("9 are none", 0, look(school, 0, 5));
        school.gift(1, 9);
        due("nor are 9 and 9", 0, look(school, 0, 5));
        school.gift(0, 1);
        due("10 are one", 1, look(school, 0, 5));
        school.gift(2, 19);
        due("19 are one", 2, look(school, 0, 5));
        school.gift(2, 1);
        due("20 are two", 3, look(school, 0, 5));
    }

    /** "vote 1 .. 9999", "VOTES for it now": by the STATUTES that hold now, at both ends. */
    private static void votesAtTheirEdges() {
        BlueCoats school = Check.school("vote 9999;");
        givers(school, 8);
        needy(school, 0);
        for (int i = 0; i < 8; i++) {
            school.gift(i, i == 0 ? 9998 : 99999);
            school.support(i, 0);
        }
        due("10 each but the first", 70, look(school, 0, 5));
        school.gift(0, 1);
        due("9999 are one", 71, look(school, 0, 5));
        Check.statutes(school, "vote 1;");
        due("each coin is one", 7 * 99999 + 9999, look(school, 0, 5));
    }

    /** "CHILDREN, at most 16", "NONE: .. there are 16". */
    private static void sixteenChildren() {
        BlueCoats school = Check.school("places 1;");
        for (int i = 0; i < 16; i++) {
            due("so many children", i, school.count(1));
            due("child", i, school.child(10, i, 20, 0));
        }
        due("a seventeenth", NONE, school.child(10, 99, 20, 0));
        due("16", 16, school.count(1));
        due("it is none", Check.NO_CHILD, look(school, 16, 0));
        due("it never comes", 15, school.fill());
        Check.statutes(school, "age 0 0;");
        school.year();
        due("nor is there room when one is bound", NONE, school.child(10, 99, 20, 0));
    }

    /** "age 0 .. 20, need 0 .. 99, SIZE 10 .. 60, growth 0 .. 4: WAITING at first": the least and the most of each. */
    private static void childThatCanBe() {
        int[][] edges = {{0, 50, 30, 2}, {20, 50, 30, 2}, {10, 0, 30, 2}, {10, 99, 30, 2},
            {10, 50, 10, 2}, {10, 50, 60, 2}, {10, 50, 30, 0}, {10, 50, 30, 4}};
        BlueCoats school = new BlueCoats();
        for (int i = 0; i < edges.length; i++) {
            int[] edge = edges[i];
            due("it can be", i, school.child(edge[0], edge[1], edge[2], edge[3]));
            int[] seen = {edge[0], edge[1], edge[2], 0, NONE, 0};
            for (int what = 0; what < 6; what++) {
                due("child " + i + ", what " + what, seen[what], look(school, i, what));
            }
        }
        school.year();
        for (int i = 0; i < edges.length; i++) {
            due("older", edges[i][0] + 1, look(school, i, 0));
            due("as much greater as it grows", edges[i][2] + edges[i][3], look(school, i, 2));
        }
    }

    /** "NONE: it can't be": each of the four beyond each end, the others well. */
    private static void childThatCannotBe() {
        BlueCoats school = new BlueCoats();
        int[] well = {10, 50, 30, 2};
        int[] below = {-1, -1, 9, -1};
        int[] above = {21, 100, 61, 5};
        for (int i = 0; i < 4; i++) {
            for (int wrong : new int[] {below[i], above[i], Integer.MIN_VALUE, Integer.MAX_VALUE}) {
                int[] four = well.clone();
                four[i] = wrong;
                due("number " + i + " is " + wrong, NONE, school.child(four[0], four[1], four[2], four[3]));
            }
        }
        due("nobody came", 0, school.count(1));
        due("the first who can be has number 0", 0, school.child(10, 50, 30, 2));
    }

    /** "WAITING at first; later IN the school, BOUND out". */
    private static void waitingInBound() {
        BlueCoats school = Check.school("age 0 11;");
        needy(school, 0);
        due("waiting", 0, look(school, 0, 3));
        school.fill();
        due("in", 1, look(school, 0, 3));
        school.year();
        due("bound", 2, look(school, 0, 3));
        Check.statutes(school, "age 0 20;");
        due("who is bound comes no more", NONE, school.fill());
    }

    /** "A PLACE is open while fewer are IN than places says": for each number of places. */
    private static void placeIsOpen() {
        for (int places = 1; places <= 8; places++) {
            BlueCoats school = Check.school("places " + places + ";");
            for (int i = 0; i < 9; i++) {
                needy(school, 0);
                due("place " + i + " of " + places, i < places ? i : NONE, school.fill());
            }
            due("so many are in", places, school.count(2));
        }
    }

    /** "A PLACE is open while fewer are IN than places says": not when there are more than that. */
    private static void moreInThanPlaces() {
        BlueCoats school = Check.school("places 3;age 0 12;");
        needy(school, 0, 0, 0, 0);
        for (int i = 0; i < 3; i++) {
            school.fill();
        }
        Check.statutes(school, "places 1;");
        String before = Check.picture(school);
        due("three in one place", NONE, school.fill());
        Check.same("a refused fill changes nothing", before, Check.picture(school));
        Check.statutes(school, "places 4;");
        due("a fourth place", 3, school.fill());
    }

    /** "A PLACE is open while fewer are IN": who is BOUND leaves one. */
    private static void placeAfterBound() {
        BlueCoats school = Check.school("places 1;age 0 12;");
        school.child(11, 9, 20, 0);
        school.child(10, 8, 20, 0);
        due("the first", 0, school.fill());
        due("no place", NONE, school.fill());
        due("bound", 1, school.year());
        due("the second", 1, school.fill());
    }

    /** "the W of cycle that is next (the first at first ..)", "the next W (the first behind the last) is next". */
    private static void nextWay() {
        BlueCoats school = Check.school("cycle need vote;");
        school.giver();
        school.gift(0, 100);
        needy(school, 0, 0, 0, 0);
        int[] ways = {2, 1, 2, 1};
        for (int i = 0; i < 4; i++) {
            school.support(0, i);
            due("next", ways[i], school.count(6));
            due("comes", i, school.fill());
        }
        due("the first behind the last", 2, school.count(6));
    }

    /** "else nothing changes", "NONE: .. nobody comes by what is next": though somebody would by another W. */
    private static void nobodyByWhatIsNext() {
        String[] cycles = {"cycle turn need;", "cycle vote need;"};
        for (String cycle : cycles) {
            BlueCoats school = Check.school(cycle);
            givers(school, 2);
            needy(school, 5);
            String before = Check.picture(school);
            due("nobody by " + cycle, NONE, school.fill());
            due("nobody again", NONE, school.fill());
            Check.same("nothing changes", before, Check.picture(school));
        }
        BlueCoats school = Check.school("cycle need turn;");
        school.giver();
        String before = Check.picture(school);
        due("nobody waits", NONE, school.fill());
        Check.same("nothing changes", before, Check.picture(school));
    }

    /** "whose age is from age's first N to below its second one": by each W. */
    private static void agesToCome() {
        String[] ways = {"turn", "vote", "need"};
        for (String way : ways) {
            for (int age = 0; age <= 20; age++) {
                BlueCoats school = Check.school("cycle " + way + ";age 5 9;");
                school.giver();
                school.gift(0, 100);
                school.child(age, 0, 20, 0);
                school.support(0, 0);
                due("by " + way + " at " + age, age >= 5 && age < 9 ? 0 : NONE, school.fill());
            }
        }
        comes("age 0 20;", 0, true);
        comes("age 0 20;", 19, true);
        comes("age 0 20;", 20, false);
        comes("age 20 20;", 20, false);
        comes("age 0 0;", 0, false);
        comes("age 0 1;", 0, true);
    }

    private static void comes(String statutes, int age, boolean may) {
        BlueCoats school = Check.school(statutes);
        school.child(age, 99, 20, 0);
        due(statutes + " at " + age, may ? 0 : NONE, school.fill());
    }

    /** "along the ROLL from the giver who is next on (0 at first)": each in his turn, and round again. */
    private static void turnFromNextOn() {
        BlueCoats school = Check.school("cycle turn;");
        givers(school, 3);
        needy(school, 0, 0, 0, 0, 0, 0);
        due("0 at first", 0, school.count(5));
        for (int i = 0; i < 3; i++) {
            school.support(i, 5 - i);
        }
        for (int i = 0; i < 3; i++) {
            due("giver " + i + " gives", 5 - i, school.fill());
            due("the one behind him is next", (i + 1) % 3, school.count(5));
        }
        for (int i = 0; i < 3; i++) {
            school.support(i, i);
        }
        due("round again", 0, school.fill());
        due("the second is next", 1, school.count(5));
    }

    /** "once round": who stands just before the giver who is next comes last, but he comes. */
    private static void turnOnceRound() {
        BlueCoats school = Check.school("cycle turn;");
        givers(school, 4);
        needy(school, 0, 0, 0, 0);
        school.support(1, 0);
        due("giver 1", 0, school.fill());
        due("giver 2 is next", 2, school.count(5));
        school.support(1, 1);
        due("round to giver 1", 1, school.fill());
        due("giver 2 is next again", 2, school.count(5));
        school.support(0, 3);
        school.support(1, 2);
        due("giver 0 comes before giver 1 then", 3, school.fill());
        due("giver 1 is next", 1, school.count(5));
    }

    /** "the first one who SUPPORTS such a child": past none, one IN, one BOUND, one too young, one too old. */
    private static void turnPastOthers() {
        BlueCoats school = Check.school("age 0 15;");
        school.child(14, 99, 20, 0);
        school.child(10, 98, 20, 0);
        due("one", 0, school.fill());
        due("another", 1, school.fill());
        due("the one is bound", 1, school.year());
        Check.statutes(school, "cycle turn;age 5 12;");
        school.child(4, 0, 20, 0);
        school.child(12, 0, 20, 0);
        school.child(11, 0, 20, 0);
        givers(school, 7);
        for (int i = 0; i < 5; i++) {
            school.support(i + 1, i);
        }
        school.support(6, 4);
        due("the first who can give", 4, school.fill());
        due("it was giver 5", 6, school.count(5));
    }

    /** "turn: .. else nothing changes": no giver, none who supports, none who supports such a child. */
    private static void turnWithoutSuchChild() {
        BlueCoats school = Check.school("cycle turn need;");
        needy(school, 0);
        due("no giver", NONE, school.fill());
        givers(school, 3);
        due("none who supports", NONE, school.fill());
        school.child(14, 0, 20, 0);
        school.support(1, 1);
        due("too old", NONE, school.fill());
        due("giver 0 is next still", 0, school.count(5));
        due("turn is next still", 0, school.count(6));
    }

    /** "the one behind him is next then": behind the last of the ROLL comes the first. */
    private static void turnOfTheLastGiver() {
        BlueCoats school = Check.school("cycle turn;");
        givers(school, 8);
        needy(school, 0, 0);
        school.support(7, 1);
        due("the eighth", 1, school.fill());
        due("the first is next", 0, school.count(5));
        school.support(7, 0);
        due("the eighth again", 0, school.fill());
        due("the first again", 0, school.count(5));
    }

    /** "the one behind him is next then": one alone is behind himself; who comes later stands behind him. */
    private static void turnOfOneGiver() {
        BlueCoats school = Check.school("cycle turn;");
        school.giver();
        needy(school, 0, 0, 0, 0);
        school.support(0, 0);
        due("one alone", 0, school.fill());
        due("he is next", 0, school.count(5));
        school.giver();
        school.support(0, 1);
        school.support(1, 2);
        due("he again", 1, school.fill());
        due("then who came later", 1, school.count(5));
        due("who gives", 2, school.fill());
    }

    /** "turn: .. the one behind him is next then": by no other W, and not when the STATUTES come anew. */
    private static void turnStays() {
        BlueCoats school = Check.school("cycle turn need vote;");
        givers(school, 3);
        needy(school, 0, 0, 0, 0);
        school.gift(0, 100);
        school.support(0, 0);
        school.fill();
        school.support(0, 2);
        school.support(1, 3);
        due("by need", 1, school.fill());
        due("by vote", 2, school.fill());
        due("giver 1 is next", 1, school.count(5));
        Check.statutes(school, "cycle turn;");
        due("and stays so", 1, school.count(5));
        due("by turn", 3, school.fill());
    }

    /** "vote: the child with the most VOTES of givers who SUPPORT it": in all, whatever the need. */
    private static void voteForMost() {
        BlueCoats school = Check.school("cycle vote;vote 10;");
        givers(school, 4);
        needy(school, 99, 0, 50);
        int[] gifts = {30, 29, 20, 29};
        int[] supported = {0, 1, 1, 2};
        for (int i = 0; i < 4; i++) {
            school.gift(i, gifts[i]);
            school.support(i, supported[i]);
        }
        due("2 and 2 are more than 3", 1, school.fill());
        due("then 3", 0, school.fill());
        due("then 2", 2, school.fill());
    }

    /** "(1 at least)". */
    private static void voteOneAtLeast() {
        BlueCoats school = Check.school("cycle vote;vote 10;");
        givers(school, 2);
        needy(school, 99, 1);
        school.support(0, 1);
        due("no gift", NONE, school.fill());
        school.gift(0, 9);
        due("9 are no vote", NONE, school.fill());
        school.gift(1, 100);
        due("votes for nobody", NONE, school.fill());
        school.gift(0, 1);
        due("1 is enough", 1, school.fill());
        due("nobody has one now", NONE, school.fill());
    }

    /** "of like ones the greater need, then the lesser number". */
    private static void voteOfLikeOnes() {
        BlueCoats school = Check.school("cycle vote;vote 10;");
        givers(school, 5);
        needy(school, 3, 4, 3, 4, 0);
        for (int i = 0; i < 5; i++) {
            school.gift(i, i == 4 ? 20 : 19 - i);
            school.support(i, i);
        }
        int[] order = {4, 1, 3, 0, 2, NONE};
        for (int child : order) {
            due("in order", child, school.fill());
        }
    }

    /** "need: the greatest need, of like ones the lesser number". */
    private static void needOfLikeOnes() {
        BlueCoats school = new BlueCoats();
        needy(school, 0, 98, 99, 98, 99, 0);
        int[] order = {2, 4, 1, 3, 0, 5, NONE};
        for (int child : order) {
            due("in order", child, school.fill());
        }
    }

    /** "all children are a year older (but 99 at most)": WAITING, IN and BOUND. */
    private static void yearsUpTo99() {
        BlueCoats school = Check.school("age 0 20;");
        school.child(19, 0, 20, 0);
        school.child(20, 0, 20, 0);
        school.child(0, 0, 20, 0);
        school.fill();
        for (int year = 1; year <= 101; year++) {
            due("bound in year " + year, year == 1 ? 1 : 0, school.year());
            due("bound, year " + year, Math.min(99, 19 + year), look(school, 0, 0));
            due("waiting, year " + year, Math.min(99, 20 + year), look(school, 1, 0));
            due("years", year, school.count(7));
        }
        due("from 0", 99, look(school, 2, 0));
    }

    /** "as much greater as their growth tells (99 at most)": also when the growth would pass it. */
    private static void sizesUpTo99() {
        BlueCoats school = Check.school("age 0 20;places 1;");
        school.child(0, 9, 60, 4);
        school.child(0, 8, 59, 3);
        school.child(0, 7, 58, 4);
        school.child(0, 6, 60, 1);
        school.fill();
        for (int year = 1; year <= 42; year++) {
            school.year();
            int[] sizes = {60 + 4 * year, 59 + 3 * year, 58 + 4 * year, 60 + year};
            for (int child = 0; child < 4; child++) {
                due("child " + child + ", year " + year, Math.min(99, sizes[child]), look(school, child, 2));
            }
        }
    }

    /** "growth 0 .. 4": 0 makes nobody greater. */
    private static void growthOfNone() {
        BlueCoats school = new BlueCoats();
        school.child(10, 0, 10, 0);
        school.child(10, 0, 60, 0);
        for (int year = 0; year < 50; year++) {
            school.year();
        }
        due("the least", 10, look(school, 0, 2));
        due("the greatest", 60, look(school, 1, 2));
    }

    /** "who is IN and has come to age's second N is BOUND", "how many are BOUND out": in the year in which it does. */
    private static void comeToTheSecondAge() {
        BlueCoats school = Check.school("age 0 12;");
        int[] ages = {8, 9, 9, 10, 11, 11, 11};
        for (int age : ages) {
            school.child(age, 0, 20, 0);
            school.fill();
        }
        int[] bound = {3, 1, 2, 1, 0};
        int in = 7;
        for (int i = 0; i < bound.length; i++) {
            due("bound in year " + i, bound[i], school.year());
            in -= bound[i];
            due("in behind year " + i, in, school.count(2));
        }
    }

    /** "has come to age's second N": who is past it by new STATUTES is BOUND with the next YEAR, not before. */
    private static void pastTheSecondAge() {
        BlueCoats school = Check.school("age 0 20;");
        school.child(15, 0, 20, 0);
        school.child(1, 0, 20, 0);
        school.fill();
        school.fill();
        Check.statutes(school, "age 0 3;");
        due("not before", 2, school.count(2));
        due("with the year", 1, school.year());
        due("it is 16", 2, look(school, 0, 3));
        due("and this one 2", 1, look(school, 1, 3));
        Check.statutes(school, "age 0 0;");
        due("all with age 0 0", 1, school.year());
        Check.statutes(school, "age 20 20;");
        due("none is in", 0, school.year());
    }

    /** "who is IN": not who is WAITING, nor who is BOUND already. */
    private static void onlyWhoIsIn() {
        BlueCoats school = Check.school("places 1;age 0 12;");
        school.child(11, 9, 20, 0);
        school.child(11, 8, 20, 0);
        school.fill();
        due("who is in", 1, school.year());
        due("who waits, waits", 0, look(school, 1, 3));
        due("nobody once more", 0, school.year());
        due("still waiting", 0, look(school, 1, 3));
        due("still bound", 2, look(school, 0, 3));
        due("too old by now", NONE, school.fill());
    }

    /** "is BOUND, and hands in the coat": with one, and without one. */
    private static void handsInTheCoat() {
        BlueCoats school = Check.school("age 0 12;wear 9;");
        school.child(11, 0, 20, 0);
        school.child(11, 0, 30, 0);
        school.child(10, 0, 40, 0);
        for (int i = 0; i < 3; i++) {
            school.fill();
        }
        due("coats", 90, school.feast());
        due("two are bound", 2, school.year());
        int[] coats = {NONE, NONE, 2};
        int[] wearers = {NONE, NONE, 2};
        for (int i = 0; i < 3; i++) {
            due("the coat of " + i, coats[i], look(school, i, 4));
            due("who has coat " + i, wearers[i], school.coat(i, 3));
            due("it is not gone", 0, school.coat(i, 2));
        }
        BlueCoats bare = Check.school("age 0 12;");
        bare.child(11, 0, 20, 0);
        bare.fill();
        due("one without a coat", 1, bare.year());
        due("has none", NONE, look(bare, 0, 4));
    }

    /** "IndexOutOfBoundsException: no such child": whatever the what. */
    private static void noSuchChild() {
        BlueCoats school = new BlueCoats();
        for (int what = -1; what <= 6; what++) {
            due("no child at all", Check.NO_CHILD, look(school, 0, what));
        }
        needy(school, 0, 0);
        for (int what = 0; what < 6; what++) {
            due("child -1", Check.NO_CHILD, look(school, -1, what));
            due("child 2", Check.NO_CHILD, look(school, 2, what));
        }
        for (int child : FAR) {
            due("child " + child, Check.NO_CHILD, look(school, child, 0));
            due("child " + child + " and no such what", Check.NO_CHILD, look(school, child, 6));
        }
        due("the last there is", 10, look(school, 1, 0));
    }

    /** "NoSuchElementException: no such what". */
    private static void noSuchWhat() {
        BlueCoats school = new BlueCoats();
        needy(school, 0);
        due("what -1", Check.NO_WHAT, look(school, 0, -1));
        due("what 6", Check.NO_WHAT, look(school, 0, 6));
        for (int what : FAR) {
            due("what " + what, Check.NO_WHAT, look(school, 0, what));
        }
        due("the last there is", 0, look(school, 0, 5));
    }
}
