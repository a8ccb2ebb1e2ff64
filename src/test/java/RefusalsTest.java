import java.util.Arrays;
import java.util.function.Supplier;
import java.util.function.ToIntFunction;

/**
 * "A call that returns an error changes nothing", and which error it returns if several apply. Each refused call is
 * made on an object of its own, which then has to answer as one does that was made alike without the call.
 */
public final class RefusalsTest extends Checks {
    private RefusalsTest() {
    }

    public static void main(String[] args) {
        everywhere();
        ofAnEmptyObject();
        ofMarksAlone();
        inTheMidst();
        behindTheEnd();
        ofAFullObject();
        overTheDocumentsOrder();
        refusedOrders();
        questions();
        DUES.end();
    }

    // ---- the objects

    private static WordFlasher empty() {
        return new WordFlasher();
    }

    private static WordFlasher marks() {
        WordFlasher x = of("| |");
        x.set(0, 9);
        return orders(x, "b;x");
    }

    /** A present word that has a part of its rest, an asking back, places, notes, a full history and a fault. */
    private static WordFlasher midst() {
        WordFlasher x = of("a b. ccccc | | ddddddddd e, f. g");
        x.note(1, 11);
        x.note(5, 55);
        x.jump(1);
        x.jump(3);
        x.run(60);
        x.back();
        x.run(30);
        return orders(x, "r5;n7;b");
    }

    private static WordFlasher ended() {
        WordFlasher x = of("a b. c |");
        x.jump(1);
        x.back();
        x.run(9999);
        return orders(x, "n100;");
    }

    /** 300 characters, 10 notes, 5 places and 60 characters of orders. */
    private static WordFlasher full() {
        WordFlasher x = of("| " + repeat("a. bb ", 49) + "ccc.");
        for (int word = 1; word <= 10; word++) {
            x.note(word, word);
        }
        for (int sentence = 2; sentence <= 7; sentence++) {
            x.jump(sentence);
        }
        x.run(5);
        return orders(x, repeat("r", 60));
    }

    // ---- what an object answers

    private static final class Answers {
        private final int[] row = new int[300];
        private int many = 0;

        void add(int answer) {
            row[many++] = answer;
        }

        int[] all() {
            return Arrays.copyOf(row, many);
        }
    }

    private static void addCounts(Answers answers, WordFlasher x) {
        for (int what = 0; what <= 32; what++) {
            if (what < 14 || what >= 20 && what < 27 || what >= 30) {
                answers.add(x.count(what));
            }
        }
    }

    /** What can be asked, and then what only further calls bring out: what is asked back, places, latest, states. */
    private static int[] answersOf(WordFlasher x) {
        Answers answers = new Answers();
        addCounts(answers, x);
        for (int word = 0; word < 12; word++) {
            answers.add(x.word(word, 9));
        }
        answers.add(x.left());
        answers.add(x.fault());
        answers.add(x.run(50));
        answers.add(x.back());
        answers.add(x.undo());
        answers.add(x.undo());
        answers.add(x.back());
        addCounts(answers, x);
        for (int place = 0; place < 6; place++) {
            answers.add(x.goBack());
        }
        for (int state = 0; state < 5; state++) {
            answers.add(x.undo());
            answers.add(x.count(0));
            answers.add(x.count(4));
            answers.add(x.count(5));
            answers.add(x.count(7));
        }
        answers.add(x.clearOrders());
        return answers.all();
    }

    private static void refused(String name, Supplier<WordFlasher> made, ToIntFunction<WordFlasher> call, int error) {
        WordFlasher x = made.get();
        due(name, call.applyAsInt(x), error);
        dueRow(name + " changes nothing", answersOf(x), answersOf(made.get()));
    }

    // ---- the refused calls

    /** Arguments that are out of their ranges, whatever the state is. */
    private static void everywhere() {
        wrongArguments("empty", RefusalsTest::empty);
        wrongArguments("marks", RefusalsTest::marks);
        wrongArguments("midst", RefusalsTest::midst);
        wrongArguments("ended", RefusalsTest::ended);
        wrongArguments("full", RefusalsTest::full);
    }

    private static void wrongArguments(String name, Supplier<WordFlasher> made) {
        for (int wrong : new int[] {LEAST, -1, 100001, MOST}) {
            String with = name + " with " + wrong + ": ";
            refused(with + "append", made, x -> x.append(wrong), INVALID);
            refused(with + "cut", made, x -> x.cut(wrong), INVALID);
            refused(with + "word", made, x -> x.word(wrong, 0), INVALID);
            refused(with + "word, what", made, x -> x.word(0, wrong), INVALID);
            refused(with + "sentence", made, x -> x.sentence(wrong, 0), INVALID);
            refused(with + "sentence, what", made, x -> x.sentence(0, wrong), INVALID);
            refused(with + "page", made, x -> x.page(wrong, 0), INVALID);
            refused(with + "page, what", made, x -> x.page(0, wrong), INVALID);
            refused(with + "count", made, x -> x.count(wrong), INVALID);
            refused(with + "set, what", made, x -> x.set(wrong, 5), INVALID);
            refused(with + "set, value", made, x -> x.set(0, wrong), INVALID);
            refused(with + "speed, kind", made, x -> x.speed(wrong, 100), INVALID);
            refused(with + "speed, value", made, x -> x.speed(0, wrong), INVALID);
            refused(with + "run", made, x -> x.run(wrong), INVALID);
            refused(with + "ifRun", made, x -> x.ifRun(wrong), INVALID);
            refused(with + "jump", made, x -> x.jump(wrong), INVALID);
            refused(with + "note", made, x -> x.note(wrong, 1), INVALID);
            refused(with + "note, note", made, x -> x.note(0, wrong), INVALID);
            refused(with + "unnote", made, x -> x.unnote(wrong), INVALID);
            refused(with + "noted, way", made, x -> x.noted(0, wrong), INVALID);
            refused(with + "speedFor, page", made, x -> x.speedFor(wrong, 5), INVALID);
            refused(with + "speedFor, ticks", made, x -> x.speedFor(0, wrong), INVALID);
            refused(with + "order", made, x -> x.order(wrong), INVALID);
            refused(with + "noted, from", made, x -> x.noted(wrong, 0), wrong < 0 ? INVALID : MISSING);
            refused(with + "longest", made, x -> x.longest(wrong), wrong < 0 ? INVALID : MISSING);
        }
    }

    private static void ofAnEmptyObject() {
        Supplier<WordFlasher> made = RefusalsTest::empty;
        refused("empty: cut", made, x -> x.cut(1), IMPOSSIBLE);
        refused("empty: word", made, x -> x.word(0, 0), INVALID);
        refused("empty: sentence", made, x -> x.sentence(0, 0), INVALID);
        refused("empty: page", made, x -> x.page(0, 0), INVALID);
        refused("empty: present word", made, x -> x.count(4), MISSING);
        refused("empty: rest", made, x -> x.count(5), MISSING);
        refused("empty: run", made, x -> x.run(1), IMPOSSIBLE);
        refused("empty: back", made, WordFlasher::back, IMPOSSIBLE);
        refused("empty: jump", made, x -> x.jump(0), INVALID);
        refused("empty: goBack", made, WordFlasher::goBack, IMPOSSIBLE);
        refused("empty: ifRun", made, x -> x.ifRun(1), IMPOSSIBLE);
        refused("empty: left", made, WordFlasher::left, IMPOSSIBLE);
        refused("empty: undo", made, WordFlasher::undo, IMPOSSIBLE);
        refused("empty: note", made, x -> x.note(0, 1), INVALID);
        refused("empty: unnote", made, x -> x.unnote(0), INVALID);
        refused("empty: noted", made, x -> x.noted(0, 0), MISSING);
        refused("empty: noted before", made, x -> x.noted(0, 1), MISSING);
        refused("empty: longest", made, x -> x.longest(0), MISSING);
        refused("empty: speedFor", made, x -> x.speedFor(0, 0), INVALID);
        refused("empty: fault", made, WordFlasher::fault, MISSING);
    }

    private static void ofMarksAlone() {
        Supplier<WordFlasher> made = RefusalsTest::marks;
        refused("marks: run", made, x -> x.run(1), IMPOSSIBLE);
        refused("marks: back", made, WordFlasher::back, IMPOSSIBLE);
        refused("marks: jump", made, x -> x.jump(1), IMPOSSIBLE);
        refused("marks: jump to none", made, x -> x.jump(2), INVALID);
        refused("marks: goBack", made, WordFlasher::goBack, IMPOSSIBLE);
        refused("marks: ifRun", made, x -> x.ifRun(1), IMPOSSIBLE);
        refused("marks: left", made, WordFlasher::left, IMPOSSIBLE);
        refused("marks: note", made, x -> x.note(1, 1), IMPOSSIBLE);
        refused("marks: unnote", made, x -> x.unnote(1), MISSING);
        refused("marks: longest", made, x -> x.longest(0), MISSING);
        refused("marks: carry", made, WordFlasher::carry, IMPOSSIBLE);
    }

    private static void inTheMidst() {
        Supplier<WordFlasher> made = RefusalsTest::midst;
        duePresent("midst", midst(), 5, 30);
        due("midst: places", midst().count(6), 2);
        due("midst: notes", midst().count(7), 2);
        due("midst: askings", midst().count(10), 1);
        due("midst: states", midst().count(11), 4);
        refused("midst: append", made, x -> x.append(31), INVALID);
        refused("midst: append above", made, x -> x.append(127), INVALID);
        refused("midst: cut of none", made, x -> x.cut(0), INVALID);
        refused("midst: cut of 33", made, x -> x.cut(33), IMPOSSIBLE);
        refused("midst: cut of 300", made, x -> x.cut(300), IMPOSSIBLE);
        refused("midst: cut of 301", made, x -> x.cut(301), INVALID);
        refused("midst: unit 0", made, x -> x.set(0, 0), INVALID);
        refused("midst: unit 51", made, x -> x.set(0, 51), INVALID);
        refused("midst: speed 49", made, x -> x.speed(2, 49), INVALID);
        refused("midst: speed 401", made, x -> x.speed(2, 401), INVALID);
        refused("midst: run 0", made, x -> x.run(0), INVALID);
        refused("midst: run 10000", made, x -> x.run(10000), INVALID);
        refused("midst: jump to a mark", made, x -> x.jump(2), IMPOSSIBLE);
        refused("midst: jump to none", made, x -> x.jump(5), INVALID);
        refused("midst: ifRun to the end", made, x -> x.ifRun(9999), MISSING);
        refused("midst: note 0", made, x -> x.note(0, 0), INVALID);
        refused("midst: note 100", made, x -> x.note(0, 100), INVALID);
        refused("midst: note on a mark", made, x -> x.note(3, 1), IMPOSSIBLE);
        refused("midst: note on none", made, x -> x.note(9, 1), INVALID);
        refused("midst: unnote without one", made, x -> x.unnote(0), MISSING);
        refused("midst: noted behind all", made, x -> x.noted(6, 0), MISSING);
        refused("midst: noted before all", made, x -> x.noted(1, 1), MISSING);
        refused("midst: longest of seven", made, x -> x.longest(7), MISSING);
        refused("midst: no such speed", made, x -> x.speedFor(2, 1), MISSING);
        refused("midst: order", made, x -> x.order(31), INVALID);
        refused("midst: order above", made, x -> x.order(127), INVALID);
        refused("midst: carry of a fault", made, WordFlasher::carry, IMPOSSIBLE);
    }

    private static void behindTheEnd() {
        Supplier<WordFlasher> made = RefusalsTest::ended;
        refused("ended: present word", made, x -> x.count(4), MISSING);
        refused("ended: rest", made, x -> x.count(5), MISSING);
        refused("ended: run", made, x -> x.run(1), IMPOSSIBLE);
        refused("ended: ifRun", made, x -> x.ifRun(1), IMPOSSIBLE);
        refused("ended: left", made, WordFlasher::left, IMPOSSIBLE);
        refused("ended: jump", made, x -> x.jump(0), IMPOSSIBLE);
        refused("ended: jump to none", made, x -> x.jump(2), INVALID);
        refused("ended: carry of a fault", made, WordFlasher::carry, IMPOSSIBLE);
    }

    private static void ofAFullObject() {
        Supplier<WordFlasher> made = RefusalsTest::full;
        due("full: characters", full().count(0), 300);
        due("full: notes", full().count(7), 10);
        due("full: places", full().count(6), 5);
        due("full: orders", full().count(12), 60);
        due("full: states", full().count(11), 4);
        refused("full: append", made, x -> x.append('a'), LIMIT);
        refused("full: append of a blank", made, x -> x.append(' '), LIMIT);
        refused("full: note", made, x -> x.note(11, 1), LIMIT);
        refused("full: order", made, x -> x.order(';'), LIMIT);
        refused("full: carry", made, WordFlasher::carry, IMPOSSIBLE);
        refused("full: word behind the last", made, x -> x.word(100, 0), INVALID);
        refused("full: longest behind the last", made, x -> x.longest(99), MISSING);
    }

    /** ".. INVALID_ARGUMENT is returned rather than NOT_POSSIBLE, NOT_POSSIBLE rather than LIMIT_REACHED, .." */
    private static void overTheDocumentsOrder() {
        Supplier<WordFlasher> full = RefusalsTest::full;
        refused("no character, and full", full, x -> x.append(31), INVALID);
        refused("no order character, and full", full, x -> x.order(127), INVALID);
        refused("no note, and full", full, x -> x.note(11, 100), INVALID);
        refused("no word, and full", full, x -> x.note(100, 1), INVALID);
        refused("a mark, and full", full, x -> x.note(0, 1), IMPOSSIBLE);
        refused("a mark, full, and no note", full, x -> x.note(0, 0), INVALID);
        refused("too many to cut at all", RefusalsTest::empty, x -> x.cut(301), INVALID);
        refused("no ticks, and no present word", RefusalsTest::ended, x -> x.run(0), INVALID);
        refused("too many ticks, and no present word", RefusalsTest::ended, x -> x.ifRun(10000), INVALID);
        refused("no sentence, and no present word", RefusalsTest::ended, x -> x.jump(2), INVALID);
        refused("a wrong way, and no notes", RefusalsTest::empty, x -> x.noted(0, 2), INVALID);
        refused("a wrong place, and no notes", RefusalsTest::empty, x -> x.noted(-1, 1), INVALID);
        refused("a negative index, and no words", RefusalsTest::empty, x -> x.longest(-1), INVALID);
        refused("no page, and no speed", RefusalsTest::midst, x -> x.speedFor(3, 0), INVALID);
        refused("no word, and no note", RefusalsTest::midst, x -> x.unnote(9), INVALID);
    }

    /** An order that is not possible changes nothing beside what those ahead of it did. */
    private static void refusedOrders() {
        String[] texts = {"j9;", "j2;", "j000;u;u;u;u;u;u;", "r999;r999;r999;n1;", "r999;r999;j0;"};
        for (String text : texts) {
            WordFlasher x = orders(midst(), text);
            int carried = x.carry();
            String possible = ahead(text, carried);
            due("orders ahead of the refused one in " + text, carried, carriedOf(possible));
            WordFlasher y = orders(midst(), possible);
            y.carry();
            x.clearOrders();
            y.clearOrders();
            dueRow("refused in " + text, answersOf(x), answersOf(y));
        }
    }

    /** "Nothing changes." */
    private static void questions() {
        Supplier<WordFlasher> made = RefusalsTest::midst;
        for (int what = 0; what <= 10; what++) {
            int asked = what;
            unchanged("word, " + what, made, x -> x.word(5, asked));
            unchanged("sentence, " + what, made, x -> x.sentence(1, asked % 4));
            unchanged("page, " + what, made, x -> x.page(2, asked % 4));
            unchanged("count, " + what, made, x -> x.count(asked));
        }
        for (int ticks : new int[] {1, 29, 30, 31, 100, 9999}) {
            unchanged("ifRun, " + ticks, made, x -> x.ifRun(ticks));
        }
        unchanged("left", made, WordFlasher::left);
        unchanged("noted", made, x -> x.noted(0, 0));
        unchanged("noted before", made, x -> x.noted(9, 1));
        unchanged("longest", made, x -> x.longest(6));
        unchanged("speedFor", made, x -> x.speedFor(2, 200));
        unchanged("fault", made, WordFlasher::fault);
        unchanged("a question for what would be, of a full object", RefusalsTest::full, x -> x.ifRun(9999));
        unchanged("the ticks that are left, of a full object", RefusalsTest::full, WordFlasher::left);
    }

    private static void unchanged(String name, Supplier<WordFlasher> made, ToIntFunction<WordFlasher> call) {
        WordFlasher x = made.get();
        int answer = call.applyAsInt(x);
        due(name + " once more", call.applyAsInt(x), answer);
        dueRow(name + " changes nothing", answersOf(x), answersOf(made.get()));
    }

    private static int carriedOf(String text) {
        return text.length() - text.replace(";", "").length();
    }

    /** The first orders of a text. */
    private static String ahead(String text, int orders) {
        int end = 0;
        for (int i = 0; i < orders; i++) {
            end = text.indexOf(';', end) + 1;
        }
        return text.substring(0, end);
    }
}
