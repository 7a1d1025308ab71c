import java.nio.charset.StandardCharsets;
import java.util.NoSuchElementException;

/** What the tests share: telling wrong answers, and putting texts on an object's tape. */
final class Check {
    /** Answers that stand for the exceptions of look(). */
    static final int NO_CHILD = -1001;
    static final int NO_WHAT = -1002;

    private static int wrong = 0;
    private static int checked = 0;

    private Check() {
    }

    static void due(String what, long want, long got) {
        checked++;
        if (got != want) {
            wrong++;
            System.out.println(what + " answered " + got + ", due is " + want);
        }
    }

    static void due(String what, boolean want, boolean got) {
        due(what, want ? 1 : 0, got ? 1 : 0);
    }

    static boolean anyWrong() {
        return wrong != 0;
    }

    static void end() {
        System.out.println(wrong == 0 ? checked + " answers are as due" : wrong + " of " + checked + " are not as due");
        if (wrong != 0) {
            System.exit(1);
        }
    }

    static int look(BlueCoats school, int child, int what) {
        try {
            return school.look(child, what);
        } catch (IndexOutOfBoundsException e) {
            return NO_CHILD;
        } catch (NoSuchElementException e) {
            return NO_WHAT;
        }
    }

    /** Feeds a text, filled up with zeros to whole feeds, behind the tape. */
    static void feed(BlueCoats school, String text) {
        byte[] bytes = text.getBytes(StandardCharsets.ISO_8859_1);
        for (int at = 0; at < bytes.length; at += 20) {
            school.feed(word(bytes, at), word(bytes, at + 4), word(bytes, at + 8),
                    word(bytes, at + 12), word(bytes, at + 16));
        }
    }

    static int statutes(BlueCoats school, String text) {
        feed(school, text);
        return school.statutes(text.length());
    }

    /** A new school whose statutes are the text. */
    static BlueCoats school(String text) {
        BlueCoats school = new BlueCoats();
        statutes(school, text);
        return school;
    }

    /**
     * All that can be seen of a school without changing it, one answer behind the other. It asks
     * for what is there alone, so that an object's 512 calls are enough for several pictures.
     */
    static String picture(BlueCoats school) {
        StringBuilder text = new StringBuilder("counts");
        for (int what = 0; what < 8; what++) {
            text.append(' ').append(school.count(what));
        }
        text.append(", fault ").append(school.fault(0)).append(' ').append(school.fault(1));
        for (int child = 0; look(school, child, 0) != NO_CHILD; child++) {
            text.append(", child");
            for (int what = 0; what < 6; what++) {
                text.append(' ').append(look(school, child, what));
            }
        }
        for (int coat = 0; school.coat(coat, 0) != BlueCoats.NONE; coat++) {
            text.append(", coat");
            for (int what = 0; what < 4; what++) {
                text.append(' ').append(school.coat(coat, what));
            }
        }
        text.append(", owed");
        for (int end = 0; end < 6; end++) {
            text.append(' ').append(school.owed(0, end));
        }
        for (int legacy = 0; school.owed(1, legacy) != BlueCoats.NONE; legacy++) {
            text.append(" from ").append(school.owed(1, legacy));
        }
        return text.append(" short ").append(school.owed(2, 0)).append(" proof ").append(school.owed(3, 0)).toString();
    }

    static void same(String what, String want, String got) {
        checked++;
        if (!got.equals(want)) {
            wrong++;
            System.out.println(what + ":\n  it was " + want + "\n  and is " + got);
        }
    }

    static int word(byte[] bytes, int at) {
        int word = 0;
        for (int i = at; i < at + 4; i++) {
            word = word << 8 | (i < bytes.length ? bytes[i] & 255 : 0);
        }
        return word;
    }
}
