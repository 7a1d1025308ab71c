import java.util.ArrayList;
import java.util.List;

/**
 * The edges of the STATUTES, their FAULTS and the TAPE ("Terms", part 1, promises 2 to 4): above each
 * method stands the document's sentence that it tests.
 */
public final class StatutesEdgesTest {
    private static final int NONE = BlueCoats.NONE;
    private static final String[] LINES = {"cycle turn;", "vote 5;", "age 3 4;", "wear 2;", "spare 0;", "places 1;"};
    private static final String EIGHT_WAYS = "cycle turn vote need turn vote need turn vote";

    public static void main(String[] args) {
        lineByLine();
        lineEnds();
        blanks();
        signBeforeWord();
        signBehindLineWord();
        signBehindNumber();
        signBehindWay();
        lineForms();
        wordsByLetter();
        atLeastOneWay();
        eightWays();
        ninthWay();
        numbersOfOne();
        numbersOfAge();
        numbersBeyondAll();
        firstFault();
        leastFaultOfOnePlace();
        moreMustCome();
        toldAlready();
        withoutCycle();
        withoutVote();
        withoutAge();
        withoutWear();
        withoutSpare();
        withoutPlaces();
        feedUpTo300();
        feedBeyond300();
        highestByteFirst();
        statutesOfFirstBytes();
        statutesOfNone();
        statutesEmptyTheTape();
        notSoMany();
        belowZero();
        faultyStatutes();
        fromNowOn();
        faultOfTheLatest();
        faultOfAnotherWhat();
        Check.end();
    }

    private static void due(String what, long want, long got) {
        Check.due(what, want, got);
    }

    private static void lines(String text, int want) {
        BlueCoats school = new BlueCoats();
        due("statutes of '" + text + "'", want, Check.statutes(school, text));
        due("fault of '" + text + "'", 0, school.fault(0));
        due("place of '" + text + "'", NONE, school.fault(1));
    }

    private static void fault(String text, int what, int place) {
        BlueCoats school = new BlueCoats();
        due("statutes of '" + text + "'", NONE, Check.statutes(school, text));
        due("fault of '" + text + "'", what, school.fault(0));
        due("place of '" + text + "'", place, school.fault(1));
    }

    /** "STATUTES: a TEXT: { LINE ';' }": none, and each number of lines up to all, from both ends. */
    private static void lineByLine() {
        StringBuilder forth = new StringBuilder();
        StringBuilder back = new StringBuilder();
        lines("", 0);
        for (int i = 0; i < LINES.length; i++) {
            lines(LINES[i], 1);
            lines(forth.append(LINES[i]).toString(), i + 1);
            lines(back.append(LINES[LINES.length - 1 - i]).toString(), i + 1);
        }
    }

    /** "{ LINE ';' }": a ';' behind each line, and none else. */
    private static void lineEnds() {
        for (String line : LINES) {
            String open = line.substring(0, line.length() - 1);
            fault(open, 1, open.length());
            fault(open + " places 2;", 1, open.length() + 1);
            fault(line + ";", 1, line.length());
            fault(";" + line, 1, 0);
        }
        fault(";", 1, 0);
    }

    /** "Blanks 10, 32": alone, before, between and behind, many or as few as can be. */
    private static void blanks() {
        lines(" ", 0);
        lines("\n", 0);
        lines(" \n ".repeat(100), 0);
        lines("\n wear\n\n 3 \n;  \nage \n 3\n4 \n; \n", 2);
        lines("wear3;age3 4;cycle turn\nvote;spare0;", 4);
        lines("wear\n3;", 1);
        lines(" ".repeat(293) + "wear 3;", 1);
        lines("wear 3;" + "\n".repeat(293), 1);
        lines("wear" + " ".repeat(294) + "3;", 1);
    }

    private static boolean isBlank(int sign) {
        return sign == 10 || sign == 32;
    }

    private static boolean isSmall(int sign) {
        return "abcdefghijklmnopqrstuvwxyz".indexOf(sign) >= 0;
    }

    private static boolean isDigit(int sign) {
        return "0123456789".indexOf(sign) >= 0;
    }

    /** "Blanks 10, 32", "a TOKEN that is none or can't stand there": each of all signs before and behind a LINE. */
    private static void signBeforeWord() {
        for (int sign = 0; sign < 256; sign++) {
            String before = (char) sign + "wear 3;";
            String behind = "wear 3;" + (char) sign;
            if (isBlank(sign)) {
                lines(before, 1);
                lines(behind, 1);
            } else {
                fault(before, 1, 0);
                fault(behind, 1, 7);
            }
        }
    }

    /** "Words are small letters in a row": each of all signs behind a LINE's first word. */
    private static void signBehindLineWord() {
        for (int sign = 0; sign < 256; sign++) {
            String text = "wear" + (char) sign + "3;";
            if (isBlank(sign) || sign == '0') {
                lines(text, 1);
            } else if (isDigit(sign)) {
                fault(text, 2, 4);
            } else {
                fault(text, 1, isSmall(sign) ? 0 : 4);
            }
        }
    }

    /** "N: digits": each of all signs behind an N. */
    private static void signBehindNumber() {
        for (int sign = 0; sign < 256; sign++) {
            String text = "wear 3" + (char) sign + ";";
            if (isBlank(sign)) {
                lines(text, 1);
            } else if (isDigit(sign)) {
                fault(text, 2, 5);
            } else {
                fault(text, 1, sign == ';' ? 7 : 6);
            }
        }
    }

    /** "W: turn, vote or need": each of all signs behind a W. */
    private static void signBehindWay() {
        for (int sign = 0; sign < 256; sign++) {
            String text = "cycle turn" + (char) sign + ";";
            if (isBlank(sign)) {
                lines(text, 1);
            } else if (isSmall(sign)) {
                fault(text, 1, 6);
            } else {
                fault(text, 1, sign == ';' ? 11 : 10);
            }
        }
    }

    /** "LINE: cycle W { W } | vote N | age N N | wear N | spare N | places N": too little and too much of each. */
    private static void lineForms() {
        for (String word : new String[] {"vote", "wear", "spare", "places"}) {
            int behind = word.length() + 1;
            fault(word + ";", 1, behind - 1);
            fault(word + " turn;", 1, behind);
            fault(word + " 1 1;", 1, behind + 2);
            fault(word + " 1 turn;", 1, behind + 2);
        }
        fault("age;", 1, 3);
        fault("age turn;", 1, 4);
        fault("age 7;", 1, 5);
        fault("age 7 turn;", 1, 6);
        fault("age 7 8 9;", 1, 8);
        fault("cycle 1;", 1, 6);
        fault("cycle turn 1;", 1, 11);
        fault("cycle turn cycle;", 1, 11);
        fault("turn;", 1, 0);
        fault("need 1;", 1, 0);
        fault("5;", 1, 0);
    }

    /** "a TOKEN that is none": each word with a letter another one, great, left out or put in. */
    private static void wordsByLetter() {
        String[] behind = {" turn;", " 5;", " 3 4;", " 2;", " 0;", " 1;"};
        String[] words = {"cycle", "vote", "age", "wear", "spare", "places"};
        for (int i = 0; i < words.length; i++) {
            for (String other : spoiled(words[i])) {
                fault(other + behind[i], 1, 0);
            }
        }
        for (String way : new String[] {"turn", "vote", "need"}) {
            for (String other : spoiled(way)) {
                fault("cycle need " + other + ";", 1, 11);
            }
        }
    }

    private static List<String> spoiled(String word) {
        List<String> all = new ArrayList<>();
        all.add("x" + word);
        for (int at = 0; at < word.length(); at++) {
            String before = word.substring(0, at);
            String behind = word.substring(at + 1);
            all.add(before + "x" + behind);
            all.add(before + Character.toUpperCase(word.charAt(at)) + behind);
            all.add(before + behind);
            all.add(before + word.charAt(at) + "x" + behind);
        }
        return all;
    }

    /** "cycle W { W }": one at least. */
    private static void atLeastOneWay() {
        fault("cycle;", 1, 5);
        fault("cycle ;", 1, 6);
        fault("cycle", 1, 5);
        String[] ways = {"turn", "vote", "need"};
        for (int i = 0; i < ways.length; i++) {
            BlueCoats school = new BlueCoats();
            due("one way", 1, Check.statutes(school, "cycle " + ways[i] + ";"));
            due("it is next", i, school.count(6));
        }
    }

    /** "W: turn, vote or need, 8 at most", "the next W (the first behind the last)": eight of them, and round. */
    private static void eightWays() {
        int[] ways = {1, 0, 2, 2, 0, 1, 0, 2};
        BlueCoats school = Check.school("cycle vote turn need need turn vote turn need;");
        school.giver();
        school.gift(0, 100);
        for (int i = 0; i < 8; i++) {
            school.child(10, 0, 10, 0);
            school.support(0, i);
            due("way " + i + " is next", ways[i], school.count(6));
            due("by way " + i, i, school.fill());
        }
        due("behind the eighth the first is next", 1, school.count(6));
        lines(EIGHT_WAYS + ";", 1);
    }

    /** "a ninth W (at it)". */
    private static void ninthWay() {
        int ninth = EIGHT_WAYS.length() + 1;
        fault(EIGHT_WAYS + " turn;", 2, ninth);
        fault(EIGHT_WAYS + " vote;", 2, ninth);
        fault(EIGHT_WAYS + " need", 2, ninth);
        fault(EIGHT_WAYS + "  need vote turn;", 2, ninth + 1);
        fault(EIGHT_WAYS, 1, ninth - 1);
        fault(EIGHT_WAYS + " ", 1, ninth);
        fault(EIGHT_WAYS + " nee;", 1, ninth);
        fault(EIGHT_WAYS + " 9;", 1, ninth);
    }

    private static void numberOf(String word, int least, int most) {
        int place = word.length() + 1;
        for (int n : new int[] {least, least + 1, most - 1, most}) {
            lines(word + " " + n + ";", 1);
            lines(word + " 0000" + n + ";", 1);
        }
        for (int n : new int[] {least - 1, most + 1, most * 10, 99999, 100000}) {
            if (n >= 0) {
                fault(word + " " + n + ";", 2, place);
                fault(word + " 00" + n + ";", 2, place);
            }
        }
        fault(word + " -1;", 1, place);
        fault(word + " +1;", 1, place);
    }

    /** "N: digits: vote 1 .. 9999, .. wear 1 .. 9, spare 0 .. 9, places 1 .. 8", "2 an N beyond what is said". */
    private static void numbersOfOne() {
        numberOf("vote", 1, 9999);
        numberOf("wear", 1, 9);
        numberOf("spare", 0, 9);
        numberOf("places", 1, 8);
    }

    /** "age 0 .. 20 each", "an age's second N below its first (at the second)": all pairs up to 22. */
    private static void numbersOfAge() {
        for (int first = 0; first <= 22; first++) {
            for (int second = 0; second <= 22; second++) {
                String text = "age " + first + " " + second + ";";
                if (first > 20) {
                    fault(text, 2, 4);
                } else if (second > 20 || second < first) {
                    fault(text, 2, first < 10 ? 6 : 7);
                } else {
                    lines(text, 1);
                }
            }
        }
    }

    /** "2 an N beyond what is said": numbers that would be small ones if they were cut to 8, 16, 32 or 64 bits. */
    private static void numbersBeyondAll() {
        String[] wrapped = {"257", "65537", "2147483648", "4294967297", "4294967303", "8589934593",
            "18446744073709551617", "340282366920938463463374607431768211457", "9".repeat(280), "1" + "0".repeat(280)};
        for (String n : wrapped) {
            fault("wear " + n + ";", 2, 5);
            fault("spare " + n + ";", 2, 6);
            fault("places " + n + ";", 2, 7);
            fault("age " + n + " 7;", 2, 4);
            fault("age 1 " + n + ";", 2, 6);
            if (n.length() > 5) {
                fault("vote " + n + ";", 2, 5);
            }
        }
        lines("wear " + "0".repeat(280) + "7;", 1);
        fault("wear " + "0".repeat(280) + ";", 2, 5);
    }

    /** "FAULTS, the first along the text": of two the one whose place comes first, whatever it is. */
    private static void firstFault() {
        fault("vote 0 ?", 2, 5);
        fault("vote ? vote 0;", 1, 5);
        fault("vote 0", 2, 5);
        fault("wear 2;wear 0;", 3, 7);
        fault("wear 0;wear 2;", 2, 5);
        fault("wear 2;wear ?", 3, 7);
        fault("wear 2;? wear 2;", 1, 7);
        fault("wear 2;spare 10;wear 2;", 2, 13);
        fault("age 21 20;", 2, 4);
        fault("age 21 ?", 2, 4);
        fault("age 9 8 ?", 2, 6);
        fault(EIGHT_WAYS + " turn ? cycle", 2, EIGHT_WAYS.length() + 1);
        fault("cycle ? " + EIGHT_WAYS + " turn;", 1, 6);
    }

    /** "(of one place the least)". */
    private static void leastFaultOfOnePlace() {
        fault("wear 2 wear 2;", 1, 7);
        fault("vote 5;wear vote 5;", 1, 12);
        fault("wear 2 99;", 1, 7);
        fault("cycle 99;", 1, 6);
        fault("age 7 8 99;", 1, 8);
        fault("age 7 8 3;", 1, 8);
        fault("vote 5;" + EIGHT_WAYS + " vote 5;", 2, 7 + EIGHT_WAYS.length() + 1);
    }

    /** "(the length, if more must come)": each beginning of a text. */
    private static void moreMustCome() {
        String text = "cycle turn;age 7 14;";
        int[] lines = {0, -1, -1, -1, -1, -1, -1, -1, -1, -1, -1, 1, -1, -1, -1, -1, -1, -1, -1, -1, 2};
        int[] faults = {0, 1, 1, 1, 1, 1, 1, 1, 1, 1, 1, 0, 1, 1, 1, 1, 1, 1, 2, 1, 0};
        int[] places = {-1, 0, 0, 0, 0, 5, 6, 6, 6, 6, 10, -1, 11, 11, 14, 15, 16, 17, 17, 19, -1};
        for (int n = 0; n <= text.length(); n++) {
            BlueCoats school = new BlueCoats();
            Check.feed(school, text);
            due("lines of the first " + n, lines[n], school.statutes(n));
            due("fault of the first " + n, faults[n], school.fault(0));
            due("place of the first " + n, places[n], school.fault(1));
        }
        fault("wear  \n", 1, 7);
        fault("wear" + " ".repeat(296), 1, 300);
    }

    /** "3 a LINE told already (at its first word)": each of the six, at once, behind others, and otherwise told. */
    private static void toldAlready() {
        String[] others = {"cycle need need", "vote 6", "age 3 5", "wear 3", "spare 1", "places 2"};
        for (int i = 0; i < LINES.length; i++) {
            String between = LINES[(i + 1) % LINES.length];
            fault(LINES[i] + LINES[i], 3, LINES[i].length());
            fault(LINES[i] + " \n" + others[i] + ";", 3, LINES[i].length() + 2);
            fault(LINES[i] + between + others[i], 3, LINES[i].length() + between.length());
        }
        fault(String.join("", LINES) + "age", 3, String.join("", LINES).length());
        lines("cycle vote;vote 5;", 2);
        lines("vote 5;cycle vote;", 2);
    }

    /** All lines but one, none of them as it holds without it; then the one that is left out holds as said. */
    private static BlueCoats allBut(int left, String... instead) {
        StringBuilder text = new StringBuilder();
        for (int i = 0; i < LINES.length; i++) {
            text.append(i == left ? "" : instead[i]);
        }
        BlueCoats school = Check.school("cycle turn vote;vote 7;age 1 2;wear 9;spare 9;places 1;");
        due("all but one", 5, Check.statutes(school, text.toString()));
        return school;
    }

    /** "Without a LINE: cycle need". */
    private static void withoutCycle() {
        BlueCoats school = allBut(0, "", "vote 5;", "age 3 4;", "wear 2;", "spare 0;", "places 2;");
        due("need is next", 2, school.count(6));
        school.child(3, 1, 10, 0);
        school.child(3, 2, 10, 0);
        due("the greater need", 1, school.fill());
        due("need is next again", 2, school.count(6));
        due("by need", 0, school.fill());
    }

    /** "Without a LINE: .. vote 100". */
    private static void withoutVote() {
        BlueCoats school = allBut(1, "cycle vote;", "", "age 3 4;", "wear 2;", "spare 0;", "places 1;");
        school.giver();
        school.child(3, 0, 10, 0);
        school.support(0, 0);
        int[] gifts = {99, 1, 99, 1};
        int[] votes = {0, 1, 1, 2};
        for (int i = 0; i < gifts.length; i++) {
            school.gift(0, gifts[i]);
            due("votes", votes[i], Check.look(school, 0, 5));
        }
    }

    /** "Without a LINE: .. age 7 14". */
    private static void withoutAge() {
        BlueCoats school = allBut(2, "cycle need;", "vote 5;", "", "wear 2;", "spare 0;", "places 7;");
        int[] ages = {6, 7, 13, 14};
        for (int i = 0; i < ages.length; i++) {
            school.child(ages[i], ages.length - i, 10, 0);
        }
        due("7 may come, and 6 may not", 1, school.fill());
        due("13 may", 2, school.fill());
        due("14 may not", NONE, school.fill());
        due("13 is 14 then", 1, school.year());
        due("it is bound", 2, Check.look(school, 2, 3));
    }

    /** "Without a LINE: .. wear 3". */
    private static void withoutWear() {
        BlueCoats school = allBut(3, "cycle need;", "vote 5;", "age 0 20;", "", "spare 0;", "places 1;");
        school.child(3, 0, 10, 0);
        school.fill();
        school.feast();
        for (int year = 1; year <= 3; year++) {
            school.year();
            due("gone after " + year, year == 3 ? 1 : 0, school.coat(0, 2));
        }
    }

    /** "Without a LINE: .. spare 1". */
    private static void withoutSpare() {
        BlueCoats school = Check.school("age 0 20;wear 9;places 1;");
        school.child(18, 9, 20, 0);
        school.fill();
        due("a coat of 20", 20, school.feast());
        school.year();
        school.year();
        school.child(0, 8, 18, 1);
        due("who is 18", 1, school.fill());
        due("is two too small for it", 18, school.feast());
        school.year();
        due("who is 19 then", 19, Check.look(school, 1, 2));
        due("is but one too small", 0, school.feast());
        due("and has it", 0, Check.look(school, 1, 4));
    }

    /** "Without a LINE: .. places 8". */
    private static void withoutPlaces() {
        BlueCoats school = allBut(5, "cycle need;", "vote 5;", "age 3 4;", "wear 2;", "spare 0;", "");
        for (int i = 0; i < 9; i++) {
            school.child(3, 0, 10, 0);
        }
        for (int i = 0; i < 8; i++) {
            due("place " + i, i, school.fill());
        }
        due("a ninth", NONE, school.fill());
    }

    /** "Twenty bytes come behind the TAPE ..: how many it has": up to 300 of them. */
    private static void feedUpTo300() {
        BlueCoats school = new BlueCoats();
        for (int i = 1; i <= 14; i++) {
            due("feed " + i, 20 * i, school.feed(0x20202020, 0x20202020, 0x20202020, 0x20202020, 0x20202020));
        }
        due("the last feed", 300, school.feed(0x20202020, 0x20202020, 0x20202077, 0x65617220, 0x20202039));
        due("all 300 are read, and 9 stands last of all", NONE, school.statutes(300));
        due("more must come", 1, school.fault(0));
        due("behind all 300", 300, school.fault(1));
    }

    /** "NONE, and none come, if it would have more than 300". */
    private static void feedBeyond300() {
        BlueCoats school = new BlueCoats();
        Check.feed(school, " ".repeat(280) + "wear 3;      spare 4");
        for (int i = 0; i < 3; i++) {
            due("more than 300", NONE, school.feed(0x3b3b3b3b, 0x3b3b3b3b, 0x3b3b3b3b, 0x3b3b3b3b, 0x3b3b3b3b));
        }
        due("there are not 301", -2, school.statutes(301));
        due("the 300 are what they were", NONE, school.statutes(300));
        due("so that the last line has no end", 1, school.fault(0));
        due("behind the 300", 300, school.fault(1));
        due("then there is room again", 20, school.feed(0, 0, 0, 0, 0));
    }

    /** "four of each number, the highest first": each of the twenty. */
    private static void highestByteFirst() {
        for (int place = 0; place < 20; place++) {
            int[] five = {0x20202020, 0x20202020, 0x20202020, 0x20202020, 0x20202020};
            int shift = 24 - 8 * (place % 4);
            five[place / 4] = five[place / 4] & ~(255 << shift) | 255 << shift;
            BlueCoats school = new BlueCoats();
            due("twenty", 20, school.feed(five[0], five[1], five[2], five[3], five[4]));
            due("twenty behind them", 40, school.feed(-1, -1, -1, -1, -1));
            due("one is no blank", NONE, school.statutes(20));
            due("its place", place, school.fault(1));
            due("blanks before it", place, lengthOfBlanks(five, place));
        }
    }

    /** How many first bytes of five numbers are blanks, as statutes() tells it: 0 lines and no FAULT. */
    private static int lengthOfBlanks(int[] five, int most) {
        BlueCoats school = new BlueCoats();
        school.feed(five[0], five[1], five[2], five[3], five[4]);
        return school.statutes(most) == 0 ? most : NONE;
    }

    /** "The TAPE's first n bytes .. are the STATUTES": not one more. */
    private static void statutesOfFirstBytes() {
        BlueCoats school = new BlueCoats();
        Check.feed(school, "wear 3;?");
        due("7 of 20", 1, school.statutes(7));
        Check.feed(school, "wear 3;?");
        due("8 of 20", NONE, school.statutes(8));
        due("the eighth", 7, school.fault(1));
        Check.feed(school, "vote 99991;");
        due("digits that are cut off don't count", NONE, school.statutes(9));
        due("its N is not beyond", 1, school.fault(0));
        due("more must come", 9, school.fault(1));
        Check.feed(school, "vote 12;            ");
        due("all 20 of 20", 1, school.statutes(20));
        Check.feed(school, "age 1 2;                                ");
        due("40 of 40", 1, school.statutes(40));
    }

    /** "The TAPE's first n bytes": none of them are STATUTES too, without a LINE. */
    private static void statutesOfNone() {
        BlueCoats school = Check.school("cycle turn;");
        due("turn is next", 0, school.count(6));
        due("none of none", 0, school.statutes(0));
        due("need is next", 2, school.count(6));
        Check.feed(school, "cycle vote;");
        due("none of 20", 0, school.statutes(0));
        due("need is next still", 2, school.count(6));
        due("the tape is empty", -2, school.statutes(1));
        due("no fault", 0, school.fault(0));
    }

    /** "(it is empty then)": with n less than there are, with all, with a FAULT. */
    private static void statutesEmptyTheTape() {
        BlueCoats school = new BlueCoats();
        Check.feed(school, "wear 3;wear 4;                          ");
        due("some", 1, school.statutes(7));
        due("empty behind some", -2, school.statutes(1));
        due("feed begins anew", 20, school.feed(0x20202020, 0x20202020, 0x20202020, 0x20202020, 0x20202020));
        due("all", 0, school.statutes(20));
        due("empty behind all", 20, school.feed(0, 0, 0, 0, 0));
        due("a fault", NONE, school.statutes(20));
        due("empty behind a fault", -2, school.statutes(1));
        due("feed begins anew", 20, school.feed(0, 0, 0, 0, 0));
    }

    /** "-2, and the TAPE stays: there are not so many". */
    private static void notSoMany() {
        BlueCoats school = new BlueCoats();
        due("1 of none", -2, school.statutes(1));
        Check.feed(school, "wear 3;             ");
        for (int n : new int[] {21, 40, 300, 301, Integer.MAX_VALUE}) {
            due(n + " of 20", -2, school.statutes(n));
        }
        due("20 are there still", 40, school.feed(0x2020203b, 0x20202020, 0x20202020, 0x20202020, 0x20202020));
        due("41 of 40", -2, school.statutes(41));
        due("they are what they were", NONE, school.statutes(40));
        due("the second twenty lie behind the first", 23, school.fault(1));
    }

    /** "-2, and the TAPE stays: .. n is below 0". */
    private static void belowZero() {
        BlueCoats school = new BlueCoats();
        due("-1 of none", -2, school.statutes(-1));
        Check.feed(school, "spare 2;wear 3;     ");
        for (int n : new int[] {-1, -2, -20, -300, Integer.MIN_VALUE}) {
            due(n + " of 20", -2, school.statutes(n));
        }
        due("20 are there still", 2, school.statutes(20));
    }

    /** "NONE with a FAULT": those that were stay the STATUTES, every part of them, and the W that is next. */
    private static void faultyStatutes() {
        BlueCoats school = Check.school("cycle need vote turn;vote 10;age 2 5;wear 2;spare 0;places 2;");
        school.child(2, 9, 20, 0);
        school.child(4, 8, 21, 0);
        school.child(4, 8, 21, 0);
        school.giver();
        school.gift(0, 10);
        school.support(0, 1);
        due("by need", 0, school.fill());
        due("a fault at the end", NONE, Check.statutes(school, "cycle turn;vote 1;age 0 20;wear 9;spare 9;places 8;?"));
        due("vote is next", 1, school.count(6));
        due("a vote costs 10", 1, Check.look(school, 1, 5));
        due("by vote", 1, school.fill());
        due("2 places", NONE, school.fill());
        due("two coats", 41, school.feast());
        due("4 is 5 then", 1, school.year());
        due("no coat of 21 is spare for 20", 0, Check.look(school, 0, 4));
        due("one goes on", 0, school.feast());
        due("worn for two years", 0, school.year());
        due("gone", 1, school.coat(0, 2));
    }

    /** "are the STATUTES from now on": for those who are in already too; "when the STATUTES come anew, the first". */
    private static void fromNowOn() {
        BlueCoats school = Check.school("cycle need turn vote;");
        school.child(10, 0, 10, 0);
        school.child(10, 0, 10, 0);
        school.fill();
        due("the second is next", 0, school.count(6));
        due("the same anew", 1, Check.statutes(school, "cycle need turn vote;"));
        due("the first is next", 2, school.count(6));
        due("by need", 1, school.fill());
        Check.statutes(school, "age 0 10;");
        due("10 is the second N now", 2, school.year());
    }

    /** "Of the latest statutes() that was not -2, what 0: its FAULT (0), 1: its place (NONE without)". */
    private static void faultOfTheLatest() {
        BlueCoats school = new BlueCoats();
        faults("before all", school, 0, NONE);
        due("-2", -2, school.statutes(1));
        faults("-2 alone", school, 0, NONE);
        Check.statutes(school, " spare 10;");
        faults("a fault", school, 2, 7);
        due("-2", -2, school.statutes(1));
        due("-2", -2, school.statutes(-1));
        faults("-2 behind a fault", school, 2, 7);
        Check.statutes(school, "?");
        faults("a fault at the first sign", school, 1, 0);
        Check.statutes(school, "wear 2;wear");
        faults("the latest", school, 3, 7);
        due("none", 0, school.statutes(0));
        faults("without a fault", school, 0, NONE);
        due("-2", -2, school.statutes(7));
        faults("-2 without a fault", school, 0, NONE);
    }

    private static void faults(String what, BlueCoats school, int fault, int place) {
        due(what + ": the fault", fault, school.fault(0));
        due(what + ": its place", place, school.fault(1));
    }

    /** "NONE for another what". */
    private static void faultOfAnotherWhat() {
        BlueCoats school = Check.school("wear 2;wear 2;");
        for (int what : new int[] {Integer.MIN_VALUE, -2, -1, 2, 3, 256, Integer.MAX_VALUE}) {
            due("fault " + what, NONE, school.fault(what));
        }
        faults("the others", school, 3, 7);
    }
}
