/** What the tests with written-out answers have alike: ways to make objects, and comparisons of what they answer. */
abstract class Checks {
    static final int INVALID = -1;
    static final int IMPOSSIBLE = -2;
    static final int LIMIT = -3;
    static final int MISSING = -4;

    static final int LEAST = Integer.MIN_VALUE;
    static final int MOST = Integer.MAX_VALUE;

    static final Dues DUES = new Dues();

    static void due(String call, long got, long want) {
        DUES.due(call, got, want);
    }

    static WordFlasher of(String text) {
        return append(new WordFlasher(), text);
    }

    /** With the unit 50, so that a step of a speed shows in the times. */
    static WordFlasher slow(String text) {
        WordFlasher x = new WordFlasher();
        x.set(0, 50);
        return append(x, text);
    }

    static WordFlasher append(WordFlasher x, String text) {
        for (int i = 0; i < text.length(); i++) {
            x.append(text.charAt(i));
        }
        return x;
    }

    static WordFlasher orders(WordFlasher x, String orders) {
        x.clearOrders();
        for (int i = 0; i < orders.length(); i++) {
            x.order(orders.charAt(i));
        }
        return x;
    }

    static String repeat(String part, int times) {
        return part.repeat(times);
    }

    static String letters(int many) {
        return repeat("a", many);
    }

    static void dueRow(String name, int[] got, int... want) {
        due(name + ": how many", got.length, want.length);
        for (int i = 0; i < Math.min(got.length, want.length); i++) {
            due(name + " [" + i + "]", got[i], want[i]);
        }
    }

    /** A property of all words. */
    static int[] ofWords(WordFlasher x, int what) {
        int[] row = new int[x.count(1)];
        for (int w = 0; w < row.length; w++) {
            row[w] = x.word(w, what);
        }
        return row;
    }

    static int[] ofSentences(WordFlasher x, int what) {
        int[] row = new int[x.count(2)];
        for (int s = 0; s < row.length; s++) {
            row[s] = x.sentence(s, what);
        }
        return row;
    }

    static int[] ofPages(WordFlasher x, int what) {
        int[] row = new int[x.count(3)];
        for (int p = 0; p < row.length; p++) {
            row[p] = x.page(p, what);
        }
        return row;
    }

    static void dueSpeeds(String name, WordFlasher x, int first, int second, int third) {
        dueRow(name + ": speeds", new int[] {x.count(30), x.count(31), x.count(32)}, first, second, third);
    }

    static void duePresent(String name, WordFlasher x, int word, int rest) {
        due(name + ": present", x.count(4), word);
        due(name + ": rest", x.count(5), rest);
    }
}
