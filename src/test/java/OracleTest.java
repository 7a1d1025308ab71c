import java.nio.charset.StandardCharsets;
import java.util.Random;

/** Drawn runs of calls, from fixed seeds, on the class and on the Model: all answers must be alike. */
public final class OracleTest {
    private static final int RUNS = 6000;
    /** So few that no object is used for more than the document's 512 calls. */
    private static final int CALLS = 45;
    private static final int LOOKS = 7;
    private static final int TEXTS = 20;
    private static final String[] WORDS = {"cycle", "vote", "age", "wear", "spare", "places", "turn", "need",
        ";", "; ", " ", "\n", "0", "1", "7", "8", "9", "10", "20", "21", "0007", "9999", "10000", "4294967297", "A", "cyc"};

    private final Random random;
    private final BlueCoats school = new BlueCoats();
    private final Model model = new Model();
    private final String name;

    private OracleTest(int seed) {
        random = new Random(seed);
        name = "seed " + seed + " ";
    }

    public static void main(String[] args) {
        for (int seed = 0; seed < RUNS && !Check.anyWrong(); seed++) {
            new OracleTest(seed).run();
        }
        for (int seed = 0; seed < RUNS / 2 && !Check.anyWrong(); seed++) {
            new OracleTest(seed).feasts();
            new OracleTest(seed).chests();
        }
        for (int seed = 0; seed < 300 && !Check.anyWrong(); seed++) {
            new OracleTest(seed).texts();
        }
        for (int seed = 0; seed < 300 && !Check.anyWrong(); seed++) {
            smallChest(new Random(seed));
        }
        Check.end();
    }

    private void run() {
        boolean youngSchool = random.nextBoolean();
        for (int call = 0; call < CALLS && !Check.anyWrong(); call++) {
            switch (random.nextInt(14)) {
                case 0:
                    statutes(goodText());
                    break;
                case 1:
                    Check.due(name + "giver", model.giver(), school.giver());
                    break;
                case 2:
                    gift();
                    break;
                case 3:
                    support();
                    break;
                case 4:
                case 5:
                    child(youngSchool);
                    break;
                case 6:
                case 7:
                case 8:
                    Check.due(name + "fill", model.fill(), school.fill());
                    break;
                case 9:
                    Check.due(name + "year", model.year(), school.year());
                    break;
                case 10:
                case 11:
                    Check.due(name + "feast", model.feast(), school.feast());
                    break;
                case 12:
                    chest();
                    break;
                default:
                    Check.due(name + "pay", model.pay(), school.pay());
                    break;
            }
            for (int i = 0; i < LOOKS; i++) {
                compare();
            }
        }
    }

    /** A full school, with so many feasts that the cloth for coats may end. */
    private void feasts() {
        String spare = "spare " + random.nextInt(10) + ";";
        statutes("age 0 20;wear " + (1 + random.nextInt(9)) + ";" + spare);
        for (int i = 0; i < 16; i++) {
            child(true);
        }
        for (int i = 0; i < 30 && !Check.anyWrong(); i++) {
            Check.due(name + "fill", model.fill(), school.fill());
            Check.due(name + "fill", model.fill(), school.fill());
            if (random.nextInt(3) != 0) {
                Check.due(name + "year", model.year(), school.year());
            }
            Check.due(name + "feast", model.feast(), school.feast());
            for (int child = 0; child < 8; child++) {
                int one = random.nextInt(16);
                Check.due(name + "look " + one + " 4", model.look(one, 4), Check.look(school, one, 4));
            }
            Check.due(name + "count 3", model.count(3), school.count(3));
        }
    }

    /** Up to 8 legacies, paid several times over. */
    private void chests() {
        for (int i = random.nextInt(3) * 4; i >= 0; i--) {
            int coins = random.nextInt(40);
            int ends = random.nextInt(64) & random.nextInt(64);
            Check.due(name + "legacy", model.legacy(coins, ends), school.legacy(coins, ends));
        }
        for (int i = 0; i < 12 && !Check.anyWrong(); i++) {
            chest();
            for (int k = 0; k < 8; k++) {
                Check.due(name + "owed 0 " + k, model.owed(0, k), school.owed(0, k));
                Check.due(name + "owed 1 " + k, model.owed(1, k), school.owed(1, k));
            }
            Check.due(name + "short", model.owed(2, i), school.owed(2, i));
            Check.due(name + "proof", model.owed(3, i), school.owed(3, i));
            Check.due(name + "pay", model.pay(), school.pay());
        }
    }

    private void statutes(String text) {
        byte[] bytes = text.getBytes(StandardCharsets.ISO_8859_1);
        for (int at = 0; at < bytes.length; at += 20) {
            int[] five = new int[5];
            for (int i = 0; i < 5; i++) {
                five[i] = Check.word(bytes, at + 4 * i);
            }
            Check.due(name + "feed", model.feed(five), school.feed(five[0], five[1], five[2], five[3], five[4]));
        }
        int n = Math.min(bytes.length, 300);
        Check.due(name + "statutes of '" + text + "'", model.statutes(n), school.statutes(n));
        for (int what = -1; what < 3; what++) {
            Check.due(name + "fault " + what + " of '" + text + "'", model.fault(what), school.fault(what));
        }
    }

    private String goodText() {
        StringBuilder text = new StringBuilder();
        if (random.nextInt(3) != 0) {
            text.append("cycle");
            int ways = 1 + random.nextInt(4);
            for (int i = 0; i < ways; i++) {
                text.append(' ').append(new String[] {"turn", "vote", "need"}[random.nextInt(3)]);
            }
            text.append(';');
        }
        int from = random.nextInt(10);
        text.append(random.nextInt(3) == 0 ? "" : "age " + from + " " + (from + random.nextInt(21 - from)) + ";\n");
        text.append(random.nextInt(2) == 0 ? "" : "vote " + (1 + random.nextInt(300)) + " ;");
        text.append(random.nextInt(2) == 0 ? "" : "wear " + (1 + random.nextInt(9)) + ";");
        text.append(random.nextInt(3) == 0 ? "" : "spare " + random.nextInt(10) + ";");
        text.append(random.nextInt(2) == 0 ? "" : "places " + (1 + random.nextInt(8)) + ";");
        return text.toString();
    }

    /** Texts of drawn words, and good ones with a byte changed. */
    private void texts() {
        for (int i = 0; i < TEXTS; i++) {
            StringBuilder text = new StringBuilder();
            if (random.nextBoolean()) {
                text.append(goodText());
                if (text.length() > 0) {
                    text.setCharAt(random.nextInt(text.length()), (char) random.nextInt(random.nextBoolean() ? 256 : 64));
                }
                text.setLength(random.nextInt(4) == 0 ? random.nextInt(text.length() + 1) : text.length());
            } else {
                int words = random.nextInt(12);
                for (int j = 0; j < words; j++) {
                    text.append(WORDS[random.nextInt(WORDS.length)]).append(random.nextInt(3) == 0 ? "" : " ");
                }
            }
            statutes(text.toString());
            Check.due(name + "count 6", model.count(6), school.count(6));
        }
    }

    private void gift() {
        int giver = random.nextInt(9) - 1;
        int coins = random.nextInt(10) == 0 ? random.nextInt() : random.nextInt(400);
        Check.due(name + "gift", model.gift(giver, coins), school.gift(giver, coins));
    }

    private void support() {
        int giver = random.nextInt(9) - 1;
        int child = random.nextInt(12) - 2;
        Check.due(name + "support", model.support(giver, child), school.support(giver, child));
    }

    private void child(boolean young) {
        int age = young ? random.nextInt(12) : random.nextInt(23) - 1;
        int need = random.nextInt(10) == 0 ? random.nextInt(102) - 1 : random.nextInt(5);
        int size = young ? 10 + random.nextInt(12) : random.nextInt(54) + 8;
        int growth = random.nextInt(10) == 0 ? random.nextInt(7) - 1 : random.nextInt(5);
        Check.due(name + "child", model.child(age, need, size, growth), school.child(age, need, size, growth));
    }

    private void chest() {
        if (random.nextBoolean()) {
            int coins = random.nextInt(8) == 0 ? random.nextInt(10002) - 1 : random.nextInt(60);
            int ends = random.nextInt(68) - 2;
            Check.due(name + "legacy", model.legacy(coins, ends), school.legacy(coins, ends));
        }
        for (int i = 0; i < 3; i++) {
            int end = random.nextInt(8) - 1;
            int coins = random.nextInt(20) == 0 ? random.nextInt(10002) - 1 : random.nextInt(80);
            Check.due(name + "need", model.need(end, coins), school.need(end, coins));
        }
    }

    private void compare() {
        int what = random.nextInt(10) - 1;
        int child = random.nextInt(18) - 1;
        int coat = random.nextInt(42) - 1;
        switch (random.nextInt(6)) {
            case 0:
                Check.due(name + "count " + what, model.count(what), school.count(what));
                break;
            case 1:
            case 2:
                Check.due(name + "look " + child + " " + what, model.look(child, what), Check.look(school, child, what));
                break;
            case 3:
            case 4:
                Check.due(name + "coat " + coat + " " + what, model.coat(coat, what), school.coat(coat, what));
                break;
            default:
                Check.due(name + "owed " + what + " " + child, model.owed(what, child), school.owed(what, child));
                break;
        }
    }

    /** Chests so small that every way to pay can be tried. */
    private static void smallChest(Random random) {
        BlueCoats school = new BlueCoats();
        int[] coins = new int[3];
        int[] ends = new int[3];
        int[] needs = new int[3];
        for (int i = 0; i < 3; i++) {
            coins[i] = random.nextInt(4);
            ends[i] = random.nextInt(8);
            needs[i] = random.nextInt(4);
            school.legacy(coins[i], ends[i]);
            school.need(i, needs[i]);
        }
        int[] best = bestWay(coins, ends, needs);
        Check.due("needs less short", best[0], needs[0] + needs[1] + needs[2] - school.owed(2, 0));
        for (int i = 0; i < 3; i++) {
            Check.due("small chest, end " + i, best[1 + i], school.owed(0, i));
            Check.due("small chest, legacy " + i, best[4 + i], school.owed(1, i));
        }
        Check.due("small chest, pay", best[0], school.pay());
    }

    private static int[] bestWay(int[] coins, int[] ends, int[] needs) {
        int[] best = new int[7];
        int[] cell = new int[9];
        for (int way = 0; way < 1 << 18; way++) {
            boolean can = true;
            for (int i = 0; i < 9 && can; i++) {
                cell[i] = way >> 2 * i & 3;
                can = cell[i] == 0 || (ends[i / 3] >> i % 3 & 1) != 0;
            }
            if (!can) {
                continue;
            }
            int[] tally = new int[7];
            for (int i = 0; i < 9; i++) {
                tally[0] += cell[i];
                tally[1 + i % 3] += cell[i];
                tally[4 + i / 3] += cell[i];
            }
            for (int i = 0; i < 3; i++) {
                can &= tally[1 + i] <= needs[i] && tally[4 + i] <= coins[i];
            }
            if (can && java.util.Arrays.compare(tally, best) > 0) {
                best = tally;
            }
        }
        return best;
    }
}
