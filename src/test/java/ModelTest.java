import java.util.Random;

/** Random runs of calls, always the same ones: the class and the model have to answer alike. */
public final class ModelTest {
    private static final int RUNS = 1500;
    /** An object is used for at most 512 calls. */
    private static final int CALLS = 512;
    /** More calls than one turn makes, with the look at the end. */
    private static final int TURN = 60;
    private static final int LOOKS = 3;
    private static final int[] COUNTS = {0, 1, 2, 3, 4, 5, 6, 7, 8, 9, 10, 11, 12, 13, 30, 31, 32};
    private static final int[] STRANGE = {Integer.MIN_VALUE, -65536, -2, -1, 149, 150, 151, 299, 300, 301, 65536 + 97,
        Integer.MAX_VALUE};
    private static final String[] PIECES = {"a", "of", "b.", "and,", "ccccc", "(dddddd)", "eeeeeeeee", "ffffffffffff;",
        "|", "|", "g!", "\"h?\"", "--", "1", "2b.)", "c33,", "i:'", "'", ".", "|.", "abcdefghijk", "x y", "[zz]]\"'"};
    private static final String[] ORDERS = {"r5;", "r18;", "r40;", "r250;", "r999;", "b;", "b;", "j0;", "j1;", "j2;",
        "j07;", "u;", "n5;", "n099;", "u;b;"};
    private static final String[] FAULTY = {"r0;", "r1000;", "j;", "n100;", "n0;", "x;", ";", " ", "b", "r12", "u1;"};

    private final Dues dues;
    private final Random random;
    private final WordFlasher real = new WordFlasher();
    private final Model model = new Model();
    private final String name;
    private int calls = 0;

    private ModelTest(Dues dues, int run) {
        this.dues = dues;
        random = new Random(run);
        name = "run " + run;
    }

    public static void main(String[] args) {
        Dues dues = new Dues();
        for (int run = 0; run < RUNS && dues.wrong() == 0; run++) {
            new ModelTest(dues, run).go();
        }
        dues.end();
    }

    private void due(String call, int got, int want) {
        calls++;
        dues.due(name + ", call " + calls + ": " + call, got, want);
    }

    private void go() {
        if (random.nextInt(3) == 0) {
            set(0, 1 + random.nextInt(50));
        }
        int words = random.nextInt(12) == 0 ? 150 : random.nextInt(40);
        for (int i = 0; i < words; i++) {
            type(words > 100 ? "ab |.".charAt(random.nextInt(5)) + (random.nextBoolean() ? " " : "") : piece());
        }
        while (calls < CALLS - TURN && dues.wrong() == 0) {
            call();
            for (int i = 0; i < LOOKS; i++) {
                look(COUNTS[random.nextInt(COUNTS.length)]);
            }
        }
        for (int what : COUNTS) {
            look(what);
        }
        dues.holds(name + " keeps to its calls: " + calls, calls <= CALLS);
    }

    private String piece() {
        return PIECES[random.nextInt(PIECES.length)] + (random.nextInt(6) == 0 ? "" : " ");
    }

    private void type(String text) {
        for (int i = 0; i < text.length() && calls < CALLS - TURN; i++) {
            append(text.charAt(i));
        }
    }

    private void typeOrders(String orders) {
        for (int i = 0; i < orders.length(); i++) {
            order(orders.charAt(i));
        }
    }

    /** A number below a bound for the most part, now and then one about it, now and then a strange one. */
    private int number(int bound) {
        int kind = random.nextInt(12);
        if (kind == 0) {
            return STRANGE[random.nextInt(STRANGE.length)];
        }
        return kind <= 2 ? bound - 1 + random.nextInt(3) : random.nextInt(Math.max(1, bound));
    }

    private void append(int character) {
        due("append(" + character + ")", real.append(character), model.append(character));
    }

    private void order(int character) {
        due("order(" + character + ")", real.order(character), model.order(character));
    }

    private void set(int what, int value) {
        due("set(" + what + ", " + value + ")", real.set(what, value), model.set(what, value));
    }

    private void look(int what) {
        due("count(" + what + ")", real.count(what), model.count(what));
    }

    private void call() {
        switch (random.nextInt(24)) {
            case 0, 1, 2, 3, 4 -> run();
            case 5, 6 -> due("back()", real.back(), model.back());
            case 7, 8 -> jump();
            case 9 -> due("goBack()", real.goBack(), model.goBack());
            case 10 -> ask();
            case 11 -> due("undo()", real.undo(), model.undo());
            case 12, 13 -> note();
            case 14 -> alter();
            case 15 -> settings();
            case 16, 17 -> giveOrders();
            case 18 -> due("carry()", real.carry(), model.carry());
            default -> question();
        }
    }

    private void run() {
        int ticks = random.nextInt(4) == 0 ? number(10000) : 1 + random.nextInt(120);
        due("run(" + ticks + ")", real.run(ticks), model.run(ticks));
    }

    private void jump() {
        int sentence = number(model.count(2));
        due("jump(" + sentence + ")", real.jump(sentence), model.jump(sentence));
    }

    private void ask() {
        int ticks = random.nextInt(2) == 0 ? number(10000) : 1 + random.nextInt(300);
        due("ifRun(" + ticks + ")", real.ifRun(ticks), model.ifRun(ticks));
        due("left()", real.left(), model.left());
    }

    private void note() {
        int word = number(model.count(1));
        int note = random.nextInt(3) == 0 ? number(101) : 1 + random.nextInt(99);
        if (random.nextInt(6) == 0) {
            due("unnote(" + word + ")", real.unnote(word), model.unnote(word));
        } else {
            due("note(" + word + ", " + note + ")", real.note(word, note), model.note(word, note));
        }
    }

    private void alter() {
        int kind = random.nextInt(5);
        if (kind == 0) {
            int characters = random.nextInt(3) == 0 ? number(301) : number(12);
            due("cut(" + characters + ")", real.cut(characters), model.cut(characters));
        } else if (kind == 1) {
            append(number(127));
        } else {
            type(piece());
        }
    }

    private void settings() {
        if (random.nextBoolean()) {
            int kind = number(3);
            int value = number(401);
            due("speed(" + kind + ", " + value + ")", real.speed(kind, value), model.speed(kind, value));
        } else {
            int what = number(7);
            int[] mosts = {50, 10, 400, 400, 300, 50, 20};
            set(what, number(1 + mosts[Math.floorMod(what, 7)]));
        }
    }

    private void giveOrders() {
        int kind = random.nextInt(8);
        if (kind <= 2 || model.fault() >= 0) {
            due("clearOrders()", real.clearOrders(), model.clearOrders());
        } else if (kind == 3) {
            typeOrders(FAULTY[random.nextInt(FAULTY.length)]);
        } else if (kind == 4) {
            order(number(127));
        }
        for (int i = random.nextInt(6); i > 0; i--) {
            typeOrders(ORDERS[random.nextInt(ORDERS.length)]);
        }
        due("fault()", real.fault(), model.fault());
        due("carry()", real.carry(), model.carry());
    }

    private void question() {
        switch (random.nextInt(8)) {
            case 0, 1 -> {
                int word = number(model.count(1));
                int what = number(11);
                due("word(" + word + ", " + what + ")", real.word(word, what), model.word(word, what));
            }
            case 2 -> {
                int sentence = number(model.count(2));
                int what = number(4);
                due("sentence(" + sentence + ", " + what + ")", real.sentence(sentence, what),
                    model.sentence(sentence, what));
            }
            case 3 -> {
                int page = number(model.count(3));
                int what = number(4);
                due("page(" + page + ", " + what + ")", real.page(page, what), model.page(page, what));
            }
            case 4 -> {
                look(number(33));
            }
            case 5 -> {
                int from = number(model.count(1));
                int way = number(2);
                due("noted(" + from + ", " + way + ")", real.noted(from, way), model.noted(from, way));
            }
            case 6 -> {
                int index = number(model.count(1));
                due("longest(" + index + ")", real.longest(index), model.longest(index));
            }
            default -> {
                int page = number(model.count(3));
                int ticks = random.nextInt(3) == 0 ? number(100001) : random.nextInt(1 + 2 * model.count(13));
                due("speedFor(" + page + ", " + ticks + ")", real.speedFor(page, ticks), model.speedFor(page, ticks));
            }
        }
    }
}
