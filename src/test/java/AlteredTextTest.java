/** Whatever was asked and shown before, what an object says of its text is what a new one with this text says. */
public final class AlteredTextTest extends Checks {
    private static final String LONG = "aa, bbbbb2. | cccccccccc; | | d ee! fffffff g. hhhhhhhhhhhh";
    /** So many characters cut off leave fewer words, sentences or pages, or another last word. */
    private static final int[] CUTS = {1, 10, 13, 20, 22, 27, 30, 32, 34, 45, 47, 48, 58, 59};

    private AlteredTextTest() {
    }

    public static void main(String[] args) {
        longestOfAShorterText();
        shorterTexts();
        shorterTextsAtOtherSpeeds();
        otherTextBehindACut();
        textsThatComeBack();
        readmeExample();
        DUES.end();
    }

    /** "Returns a word by its time now." */
    private static void longestOfAShorterText() {
        WordFlasher x = of("a bbbb ccccccccc");
        due("three words: longest(0)", x.longest(0), 2);
        x.cut(10);
        due("two words: longest(0)", x.longest(0), 1);
        due("two words: longest(1)", x.longest(1), 0);
        due("two words: longest(2)", x.longest(2), MISSING);
        x.cut(5);
        due("one word: longest(0)", x.longest(0), 0);
        due("one word: longest(1)", x.longest(1), MISSING);
        x.cut(1);
        due("no word: longest(0)", x.longest(0), MISSING);
        x.undo();
        x.undo();
        due("two words again: longest(0)", x.longest(0), 1);
        due("two words again: longest(2)", x.longest(2), MISSING);
    }

    private static void shorterTexts() {
        for (int cut : CUTS) {
            WordFlasher x = of(LONG);
            ask(x);
            x.cut(cut);
            dueAsNew("cut by " + cut, x, of(LONG.substring(0, LONG.length() - cut)));
        }
    }

    private static void shorterTextsAtOtherSpeeds() {
        for (int cut : CUTS) {
            WordFlasher x = of(LONG);
            setUp(x);
            x.run(150);
            x.speed(1, 70);
            x.cut(cut);
            WordFlasher y = new WordFlasher();
            setUp(y);
            append(y, LONG.substring(0, LONG.length() - cut));
            for (int kind = 0; kind < 3; kind++) {
                y.speed(kind, x.count(30 + kind));
            }
            // The rest of the present word stays with a new speed, so the text is altered once more.
            append(y, " ").cut(1);
            dueAsNew("other speeds, cut by " + cut, x, y);
        }
    }

    private static void otherTextBehindACut() {
        for (int cut : new int[] {10, 27, 34, 59}) {
            String text = LONG.substring(0, LONG.length() - cut).concat(" x| 7, |");
            WordFlasher x = of(LONG);
            ask(x);
            x.cut(cut);
            append(x, " x| 7, |");
            dueAsNew("cut by " + cut + " and appended", x, of(text));
        }
    }

    private static void textsThatComeBack() {
        for (int cut : CUTS) {
            WordFlasher x = of(LONG);
            x.cut(cut);
            ask(x);
            x.undo();
            dueAsNew("cut by " + cut + " and undone", x, of(LONG));
        }
        WordFlasher x = of("| | |");
        append(x, " ab");
        x.undo();
        x.undo();
        x.undo();
        dueAsNew("appended and undone", x, of("| | |"));
    }

    /** The example of README.md. */
    private static void readmeExample() {
        WordFlasher flasher = new WordFlasher();
        for (char c : "To be, or not 2b.".toCharArray()) {
            flasher.append(c);
        }
        due("README: run(18)", flasher.run(18), 1);
        int word = flasher.count(4);
        due("README: the present word", word, 1);
        due("README: where it begins", flasher.word(word, 0), 3);
        due("README: back()", flasher.back(), 0);
        due("README: a word without letters", of("--").word(0, 10), -1);
    }

    private static void setUp(WordFlasher x) {
        x.set(0, 7);
        x.set(1, 2);
        x.set(2, 110);
        x.set(3, 333);
        x.set(4, 101);
        x.set(6, 20);
    }

    /** Questions, so that an answer that was kept would show. */
    private static void ask(WordFlasher x) {
        for (int i = 0; i <= x.count(1); i++) {
            x.longest(i);
        }
        for (int page = 0; page <= x.count(3); page++) {
            x.page(page, 2);
            x.speedFor(page, 60);
        }
        x.ifRun(100);
        x.left();
    }

    private static void dueAsNew(String name, WordFlasher x, WordFlasher y) {
        for (int what : new int[] {0, 1, 2, 3, 4, 5, 6, 7, 13}) {
            due(name + ": count(" + what + ")", x.count(what), y.count(what));
        }
        for (int what = 0; what <= 10; what++) {
            dueRow(name + ": words, " + what, ofWords(x, what), ofWords(y, what));
        }
        for (int what = 0; what <= 3; what++) {
            dueRow(name + ": sentences, " + what, ofSentences(x, what), ofSentences(y, what));
            dueRow(name + ": pages, " + what, ofPages(x, what), ofPages(y, what));
        }
        for (int index = 0; index <= x.count(1); index++) {
            due(name + ": longest(" + index + ")", x.longest(index), y.longest(index));
        }
        for (int ticks = 0; ticks <= 200; ticks += 40) {
            for (int page = 0; page <= x.count(3); page++) {
                due(name + ": speedFor(" + page + ", " + ticks + ")", x.speedFor(page, ticks), y.speedFor(page, ticks));
            }
        }
        due(name + ": left()", x.left(), y.left());
        due(name + ": ifRun(70)", x.ifRun(70), y.ifRun(70));
    }
}
