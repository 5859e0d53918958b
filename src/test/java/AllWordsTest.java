import java.util.Random;

/**
 * Tiny machines, where every word can be tried: shorter ones first, then as words go. The first word
 * that leads to a state is its way, the first that gives out something different tells two apart.
 */
public final class AllWordsTest {
    private static final int STATES = 8;
    private static final int INPUTS = 2;
    private static final int LONGEST = 7;

    private final SmallExhaust x = new SmallExhaust(0);
    private final int[][] next = new int[STATES][INPUTS];
    private final int[][] out = new int[STATES][INPUTS];

    public static void main(String[] args) {
        for (int seed = 1; seed <= 300; seed++) {
            new AllWordsTest(new Random(seed)).run();
        }
        Runs.end();
    }

    private AllWordsTest(Random random) {
        x.register(1);
        x.register(2);
        for (int i = 0; i < INPUTS; i++) {
            x.input(random.nextInt(10), random.nextInt(6) - 4, random.nextInt(6) - 4);
            x.transfer(i, 0, random.nextInt(10), random.nextInt(2), random.nextInt(6) - 4);
            x.transfer(i, 1, random.nextInt(10), random.nextInt(2), random.nextInt(6) - 4);
        }
        x.first(random.nextInt(STATES));
        for (int s = 0; s < STATES; s++) {
            for (int i = 0; i < INPUTS; i++) {
                next[s][i] = x.step(s, i);
                out[s][i] = x.output(s, i);
            }
        }
    }

    private void run() {
        for (int a = 0; a < STATES; a++) {
            for (int b = 0; b < STATES; b++) {
                String want = firstTelling(a, b);
                Runs.due("word " + a + " " + b, word(a, b), want);
                Runs.due("alike " + a + " " + b, x.alike(a, b), want.equals("none"));
            }
            int k = x.number(a);
            Runs.due("way to " + a, k < 0 ? "none" : way(k), firstLeading(x.count(5), a));
        }
    }

    private String way(int k) {
        StringBuilder letters = new StringBuilder();
        for (int i = 0; x.way(k, i) != SmallExhaust.NONE && i <= STATES; i++) {
            letters.append(x.way(k, i));
        }
        return letters.toString();
    }

    private String word(int a, int b) {
        StringBuilder letters = new StringBuilder();
        for (int i = 0; x.word(a, b, i) != SmallExhaust.NONE && i <= STATES; i++) {
            letters.append(x.word(a, b, i));
        }
        return letters.length() == 0 ? "none" : letters.toString();
    }

    private String firstTelling(int a, int b) {
        for (int length = 1; length <= LONGEST; length++) {
            for (int n = 0; n < 1 << length; n++) {
                int p = a;
                int q = b;
                boolean tells = false;
                for (int at = length - 1; at >= 0; at--) {
                    int i = n >> at & 1;
                    tells |= out[p][i] != out[q][i];
                    p = next[p][i];
                    q = next[q][i];
                }
                if (tells) {
                    return letters(n, length);
                }
            }
        }
        return "none";
    }

    private String firstLeading(int from, int to) {
        for (int length = 0; length <= LONGEST; length++) {
            for (int n = 0; n < 1 << length; n++) {
                int p = from;
                for (int at = length - 1; at >= 0; at--) {
                    p = next[p][n >> at & 1];
                }
                if (p == to) {
                    return letters(n, length);
                }
            }
        }
        return "none";
    }

    private static String letters(int n, int length) {
        StringBuilder letters = new StringBuilder();
        for (int at = length - 1; at >= 0; at--) {
            letters.append(n >> at & 1);
        }
        return letters.toString();
    }
}
