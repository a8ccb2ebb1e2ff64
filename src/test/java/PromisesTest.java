import java.util.function.ToIntFunction;

/** At least one test for each promise of the document: ordinary inputs, the edges that it names, wrong inputs. */
public final class PromisesTest extends Checks {
    private PromisesTest() {
    }

    public static void main(String[] args) {
        newObject();
        append();
        cut();
        wordsAndLetters();
        wordEnds();
        wordTimes();
        wordSpots();
        sentences();
        pages();
        counts();
        settings();
        speeds();
        runs();
        growth();
        growthAtPageMarks();
        noGrowthAfterAskingBack();
        askingBack();
        slowing();
        jumps();
        returns();
        altering();
        ifRun();
        left();
        undo();
        undoRestoresEverything();
        undoRestoresWhatIsNotShown();
        history();
        notes();
        unnote();
        noted();
        longest();
        speedFor();
        orderText();
        clearOrders();
        faults();
        carry();
        carryStops();
        DUES.end();
    }

    // ---- promise 1

    private static void newObject() {
        WordFlasher x = new WordFlasher();
        for (int what = 0; what <= 13; what++) {
            due("new: count(" + what + ")", x.count(what), what == 4 || what == 5 ? MISSING : 0);
        }
        int[] first = {6, 3, 150, 220, 130, 10, 2};
        for (int what = 0; what < first.length; what++) {
            due("new: setting " + what, x.count(20 + what), first[what]);
        }
        dueSpeeds("new", x, 100, 100, 100);
        WordFlasher other = of("a b");
        due("new beside another: text", x.count(0), 0);
        due("another: text", other.count(0), 3);
    }

    // ---- promise 2

    private static void append() {
        WordFlasher x = new WordFlasher();
        due("append(31)", x.append(31), INVALID);
        due("append(127)", x.append(127), INVALID);
        due("append(-1)", x.append(-1), INVALID);
        due("append(least)", x.append(Integer.MIN_VALUE), INVALID);
        due("append(most)", x.append(Integer.MAX_VALUE), INVALID);
        due("append(a + 65536)", x.append('a' + 65536), INVALID);
        due("append wrong: history", x.count(11), 0);
        due("append(32)", x.append(32), 0);
        due("append(126)", x.append(126), 1);
        due("append(33)", x.append(33), 1);
        due("append blank", x.append(' '), 1);
        due("append blank again", x.append(' '), 1);
        due("append |", x.append('|'), 2);
        due("append: length", x.count(0), 6);

        WordFlasher full = new WordFlasher();
        for (int i = 0; i < 300; i++) {
            due("append " + i, full.append(i % 2 == 0 ? 'a' : ' '), i / 2 + 1);
        }
        due("append at 300", full.append('b'), LIMIT);
        due("append wrong at 300", full.append(31), INVALID);
        due("append at 300: length", full.count(0), 300);
        due("append at 300: words", full.count(1), 150);
        due("append at 300: last word", full.word(149, 0), 298);
        due("append at 300: sentences", full.count(2), 1);
    }

    // ---- promise 3

    private static void cut() {
        WordFlasher x = of("ab cd ef");
        due("cut(0)", x.cut(0), INVALID);
        due("cut(-1)", x.cut(-1), INVALID);
        due("cut(301)", x.cut(301), INVALID);
        due("cut(9)", x.cut(9), IMPOSSIBLE);
        due("cut(300)", x.cut(300), IMPOSSIBLE);
        due("cut wrong: length", x.count(0), 8);
        due("cut(1)", x.cut(1), 7);
        due("cut(1): words", x.count(1), 3);
        due("cut(2)", x.cut(2), 5);
        due("cut(2): words", x.count(1), 2);
        due("cut, then append", append(x, "x y").count(1), 3);
        due("cut, then append: size", x.word(1, 1), 3);
        due("cut all", x.cut(8), 0);
        due("cut all: words", x.count(1), 0);
        due("cut all: present", x.count(4), MISSING);
        due("cut of nothing", x.cut(1), IMPOSSIBLE);

        WordFlasher full = of(repeat("a ", 150));
        due("cut 300 of 300", full.cut(300), 0);
    }

    // ---- promise 4

    private static void wordsAndLetters() {
        WordFlasher x = of("  ab-1  (xyzuv) abcdefgh abcdefghi | ~ abcd ||");
        dueRow("starts", ofWords(x, 0), 2, 8, 16, 25, 35, 37, 39, 44);
        dueRow("sizes", ofWords(x, 1), 4, 7, 8, 9, 1, 1, 4, 2);
        dueRow("lengths", ofWords(x, 2), 3, 5, 8, 9, 0, 0, 4, 0);
        dueRow("classes", ofWords(x, 3), 0, 1, 1, 2, 0, 0, 0, 0);
        dueRow("closings", ofWords(x, 4), 0, 0, 0, 0, 3, 0, 0, 0);
        dueRow("letters", ofWords(of("azAZ09 /: @G` [{^_"), 2), 6, 0, 1, 0);
        due("word(8, 0)", x.word(8, 0), INVALID);
        due("word(-1, 0)", x.word(-1, 0), INVALID);
        due("word(150, 0)", x.word(150, 0), INVALID);
        due("word(most, 0)", x.word(Integer.MAX_VALUE, 0), INVALID);
        due("word(0, 11)", x.word(0, 11), INVALID);
        due("word(0, -1)", x.word(0, -1), INVALID);
        due("word(0, least)", x.word(0, Integer.MIN_VALUE), INVALID);
        x.cut(3);
        due("word cut off", x.word(7, 0), INVALID);
    }

    private static void wordEnds() {
        WordFlasher x = of("a. b! c? d, e; f: g");
        dueRow("closings", ofWords(x, 4), 2, 2, 2, 1, 1, 1, 0);
        dueRow("sentences", ofWords(x, 5), 0, 1, 2, 3, 3, 3, 3);
        WordFlasher y = of("a.) b!] c?\" d.' e.)]\"' f.} g.( h-. .i j,\"' )]\"' . \"|\" k");
        dueRow("closings with trailing ones", ofWords(y, 4), 2, 2, 2, 2, 2, 0, 0, 2, 0, 1, 0, 2, 0, 0);
        dueRow("sentences with trailing ones", ofWords(y, 5), 0, 1, 2, 3, 4, 5, 5, 5, 6, 6, 6, 6, 7, 7);
        WordFlasher z = of("| a | | b. | c. d | e");
        dueRow("closings with marks", ofWords(z, 4), 3, 0, 3, 3, 2, 3, 2, 0, 3, 0);
        dueRow("sentences with marks", ofWords(z, 5), 0, 1, 1, 2, 3, 4, 5, 6, 6, 7);
        dueRow("pages with marks", ofWords(z, 6), 0, 1, 1, 2, 3, 3, 4, 4, 4, 5);
    }

    private static void wordTimes() {
        WordFlasher x = of("a aaaa aaaaaaaaaa aaaaaaaaaaa aaaaaaaaaaaa aaaaaaaaaaaaa | ,");
        dueRow("measures", ofWords(x, 7), 3, 4, 10, 10, 11, 11, 3, 3);
        dueRow("times", ofWords(x, 8), 18, 24, 60, 60, 66, 66, 0, 27);
        x.set(1, 10);
        dueRow("measures, least 10", ofWords(x, 7), 10, 10, 10, 10, 11, 11, 10, 10);
        x.set(1, 1);
        dueRow("measures, least 1", ofWords(x, 7), 1, 4, 10, 10, 11, 11, 1, 1);
        due("measure of 300", of(repeat("a", 300)).word(0, 7), 155);

        WordFlasher y = of("a a, a. 1 1, 1. a1b.)");
        dueRow("percents", ofWords(y, 8), 18, 27, 40, 24, 36, 52, 52);
        y.set(4, 201);
        // 150 * 201 / 100 = 301 and 220 * 201 / 100 = 442: rounded down ahead of the time
        dueRow("percents of figures", ofWords(y, 8), 18, 27, 40, 37, 55, 80, 80);
        y.set(2, 101);
        y.set(3, 399);
        dueRow("percents set", ofWords(y, 8), 18, 19, 72, 37, 37, 145, 145);
        y.speed(0, 99);
        dueRow("speed set", ofWords(y, 8), 19, 19, 73, 37, 37, 146, 146);
        due("the last word has no percent", of("a. b").word(1, 8), 18);
        y.set(0, 1);
        y.set(1, 1);
        // 100 / 99: the least that is above a whole number
        due("rounded up", y.word(0, 8), 2);
        y.speed(0, 100);
        due("nothing to round", y.word(0, 8), 1);
        WordFlasher z = of("a aaaaa aaaaaaaaa");
        z.speed(0, 50);
        z.speed(1, 200);
        z.speed(2, 400);
        dueRow("times by classes", ofWords(z, 8), 36, 15, 14);
    }

    private static void wordSpots() {
        WordFlasher x = of("a ab abc abcd abcdef abcdefg (ab-cd) -- ''a1b2c3' |");
        dueRow("spots", ofWords(x, 10), 0, 0, 0, 1, 1, 2, 2, -1, 3, -1);
        x.note(1, 77);
        dueRow("notes", ofWords(x, 9), 0, 77, 0, 0, 0, 0, 0, 0, 0, 0);
    }

    // ---- promise 5

    private static void sentences() {
        WordFlasher x = of("a b, c. | | d e | f g");
        dueRow("firsts", ofSentences(x, 0), 0, 3, 4, 5, 8);
        dueRow("lasts", ofSentences(x, 1), 2, 3, 4, 7, 9);
        dueRow("times", ofSentences(x, 2), 85, 0, 0, 36, 36);
        dueRow("shown words", ofSentences(x, 3), 3, 0, 0, 2, 2);
        x.speed(0, 50);
        dueRow("times at 50", ofSentences(x, 2), 170, 0, 0, 72, 72);
        due("sentence(5, 0)", x.sentence(5, 0), INVALID);
        due("sentence(-1, 0)", x.sentence(-1, 0), INVALID);
        due("sentence(0, 4)", x.sentence(0, 4), INVALID);
        due("sentence(0, -1)", x.sentence(0, -1), INVALID);
        due("sentence of nothing", new WordFlasher().sentence(0, 0), INVALID);
        due("sentence of blanks", of("   ").sentence(0, 0), INVALID);
    }

    // ---- promise 6

    private static void pages() {
        WordFlasher x = of("a. b. c | | d. e. | f");
        dueRow("firsts", ofPages(x, 0), 0, 4, 5, 8);
        dueRow("lasts", ofPages(x, 1), 3, 4, 7, 8);
        dueRow("times", ofPages(x, 2), 98, 0, 80, 18);
        dueRow("sentences", ofPages(x, 3), 3, 1, 3, 1);
        due("page(4, 0)", x.page(4, 0), INVALID);
        due("page(-1, 0)", x.page(-1, 0), INVALID);
        due("page(0, 4)", x.page(0, 4), INVALID);
        due("page(0, -1)", x.page(0, -1), INVALID);
        due("page of nothing", new WordFlasher().page(0, 0), INVALID);
        WordFlasher y = of("a |");
        due("pages, mark last", y.count(3), 1);
        y.append(' ');
        y.append('b');
        due("pages, word behind the mark", y.count(3), 2);
    }

    // ---- promise 7

    private static void counts() {
        WordFlasher x = of("a b. c. | ddddd");
        x.note(1, 5);
        x.note(4, 6);
        x.jump(1);
        x.run(10);
        x.back();
        orders(x, "b;");
        int[] want = {15, 5, 4, 2, 0, 20, 1, 2, 10, 0, 1, 4, 2, 20 + 44 + 44 + 30};
        for (int what = 0; what < want.length; what++) {
            due("count(" + what + ")", x.count(what), want[what]);
        }
        due("count(-1)", x.count(-1), INVALID);
        due("count(14)", x.count(14), INVALID);
        due("count(19)", x.count(19), INVALID);
        due("count(27)", x.count(27), INVALID);
        due("count(29)", x.count(29), INVALID);
        due("count(33)", x.count(33), INVALID);
        due("count(most)", x.count(Integer.MAX_VALUE), INVALID);
        due("count(least)", x.count(Integer.MIN_VALUE), INVALID);
        duePresent("no shown word", of("| |"), MISSING, MISSING);
        due("no shown word: words", of("| |").count(1), 2);
        WordFlasher y = of("a");
        y.run(18);
        duePresent("all shown", y, MISSING, MISSING);
    }

    // ---- promises 8 and 9

    private static void settings() {
        int[] first = {6, 3, 150, 220, 130, 10, 2};
        int[] least = {1, 1, 100, 100, 100, 0, 0};
        int[] most = {50, 10, 400, 400, 300, 50, 20};
        WordFlasher x = of("a b");
        for (int what = 0; what < first.length; what++) {
            String name = "set(" + what + ", ";
            due(name + "below)", x.set(what, least[what] - 1), INVALID);
            due(name + "above)", x.set(what, most[what] + 1), INVALID);
            due(name + "far above)", x.set(what, Integer.MAX_VALUE), INVALID);
            due(name + "far below)", x.set(what, Integer.MIN_VALUE), INVALID);
            due(name + "least)", x.set(what, least[what]), first[what]);
            due(name + "most)", x.set(what, most[what]), least[what]);
            due(name + "first)", x.set(what, first[what]), most[what]);
            due("setting " + what, x.count(20 + what), first[what]);
        }
        for (int value : new int[] {0, 1, 10, 100}) {
            due("set(7, " + value + ")", x.set(7, value), INVALID);
            due("set(-1, " + value + ")", x.set(-1, value), INVALID);
        }
        x.set(0, 50);
        duePresent("set: the rest stays", x, 0, 18);
        due("set: the time does not", x.word(0, 8), 150);
        due("set: wrong ones are no changes", x.undo(), 3);
        due("set undone", x.count(20), 6);
    }

    private static void speeds() {
        WordFlasher x = of("a b");
        for (int kind = 0; kind < 3; kind++) {
            due("speed(" + kind + ", 49)", x.speed(kind, 49), INVALID);
            due("speed(" + kind + ", 401)", x.speed(kind, 401), INVALID);
            due("speed(" + kind + ", 50)", x.speed(kind, 50), 100);
            due("speed(" + kind + ", 400)", x.speed(kind, 400), 50);
        }
        due("speed(3, 100)", x.speed(3, 100), INVALID);
        due("speed(-1, 100)", x.speed(-1, 100), INVALID);
        dueSpeeds("speed", x, 400, 400, 400);
        duePresent("speed: the rest stays", x, 0, 18);
        x.run(18);
        duePresent("speed: of the next word", x, 1, 5);
    }

    // ---- promise 10

    private static void runs() {
        WordFlasher x = of("a b, c. d");
        due("run(0)", x.run(0), INVALID);
        due("run(-5)", x.run(-5), INVALID);
        due("run(10000)", x.run(10000), INVALID);
        due("run(17)", x.run(17), 0);
        duePresent("run(17)", x, 0, 1);
        due("run(1)", x.run(1), 1);
        duePresent("run(1)", x, 1, 27);
        due("run(28)", x.run(28), 1);
        duePresent("run(28)", x, 2, 39);
        due("ticks", x.count(8), 46);
        due("words shown", x.count(9), 2);
        due("run(9999)", x.run(9999), 2);
        duePresent("run(9999)", x, MISSING, MISSING);
        due("ticks, not those behind the end", x.count(8), 46 + 39 + 18);
        due("words shown then", x.count(9), 4);
        due("run behind the end", x.run(1), IMPOSSIBLE);
        due("run wrong behind the end", x.run(0), INVALID);
        due("run of nothing", new WordFlasher().run(1), IMPOSSIBLE);
        due("run of a page mark", of("|").run(1), IMPOSSIBLE);
        WordFlasher y = of("| a | | b |");
        duePresent("marks ahead", y, 1, 18);
        due("run over marks", y.run(18), 1);
        duePresent("run over marks", y, 4, 18);
        due("run to the last mark", y.run(18), 1);
        duePresent("run to the last mark", y, MISSING, MISSING);
    }

    private static void growth() {
        WordFlasher x = slow("a bbbbb. cccccccccc, d! e");
        x.run(150);
        dueSpeeds("within a sentence", x, 100, 100, 100);
        x.run(549);
        dueSpeeds("a tick ahead of its end", x, 100, 100, 100);
        x.run(1);
        dueSpeeds("a sentence went well", x, 102, 102, 100);
        duePresent("the next one", x, 2, 750);
        x.run(750);
        duePresent("its end, with the grown speed", x, 3, 324);
        x.run(324);
        dueSpeeds("the second one", x, 104, 102, 102);
        duePresent("the third one", x, 4, 145);
        x.run(9999);
        dueSpeeds("the last word ends one", x, 106, 102, 102);

        WordFlasher y = of("a. b. c.");
        y.set(6, 20);
        y.speed(0, 390);
        y.run(18);
        dueSpeeds("at the first end", y, 390, 100, 100);
        y.run(22);
        dueSpeeds("at most 400", y, 400, 100, 100);
        y.set(6, 0);
        y.speed(0, 100);
        y.run(9999);
        dueSpeeds("no step", y, 100, 100, 100);
    }

    private static void growthAtPageMarks() {
        WordFlasher x = of("a bbbbb | c");
        x.run(18);
        dueSpeeds("within the page", x, 100, 100, 100);
        x.run(30);
        dueSpeeds("the mark is passed", x, 102, 102, 100);
        WordFlasher y = of("a. | | c");
        y.run(40);
        dueSpeeds("marks alone make nothing grow", y, 102, 100, 100);
        WordFlasher z = of("a |");
        z.run(9999);
        dueSpeeds("the last mark", z, 102, 100, 100);
        WordFlasher begun = slow("a | b");
        begun.run(150);
        duePresent("passed ahead of the next word", begun, 2, 148);
    }

    private static void noGrowthAfterAskingBack() {
        WordFlasher x = of("a b. c d. e.");
        x.set(5, 0);
        x.run(20);
        due("back within", x.back(), 0);
        x.run(58);
        dueSpeeds("asked back", x, 100, 100, 100);
        duePresent("the next sentence", x, 2, 18);
        x.run(58);
        dueSpeeds("the next sentence went well", x, 102, 100, 100);
        due("back to the one before", x.back(), 2);
        x.run(9999);
        dueSpeeds("the one gone back to does not, the last one does", x, 104, 100, 100);
        due("back behind the end", x.back(), 4);
        x.run(9999);
        dueSpeeds("the last one gone back to", x, 104, 100, 100);

        WordFlasher jumped = of("a b. c d.");
        jumped.set(5, 0);
        jumped.run(18);
        jumped.back();
        jumped.jump(0);
        jumped.run(58);
        dueSpeeds("a jump begins a sentence", jumped, 102, 100, 100);
        jumped.back();
        jumped.back();
        jumped.goBack();
        duePresent("returned", jumped, 0, 18);
        jumped.run(58);
        dueSpeeds("a return begins a sentence", jumped, 104, 100, 100);

        WordFlasher altered = of("a b");
        altered.set(5, 0);
        altered.back();
        altered.append('.');
        altered.run(9999);
        dueSpeeds("altering begins a sentence", altered, 102, 100, 100);

        WordFlasher marked = of("a | b | c");
        marked.set(5, 0);
        marked.back();
        marked.run(18);
        dueSpeeds("asked back ahead of a mark", marked, 100, 100, 100);
        marked.run(18);
        dueSpeeds("begun behind a mark", marked, 102, 100, 100);
    }

    // ---- promise 11

    private static void askingBack() {
        WordFlasher x = of("| a b. | | c d. e");
        x.set(5, 0);
        x.set(6, 0);
        due("back at the first word", x.back(), 1);
        x.run(10);
        due("back to the same word", x.back(), 1);
        duePresent("with its whole time", x, 1, 18);
        x.run(20);
        due("back within a sentence", x.back(), 1);
        x.run(58);
        duePresent("behind the marks", x, 5, 18);
        due("back over sentences without shown words", x.back(), 1);
        x.run(58 + 18);
        due("back to the begin", x.back(), 5);
        x.run(9999);
        due("back behind the end", x.back(), 7);
        due("back from the last word", x.back(), 5);
        due("askings", x.count(10), 7);
        due("back of nothing", new WordFlasher().back(), IMPOSSIBLE);
        due("back of marks", of("| |").back(), IMPOSSIBLE);
        due("back of marks: askings", of("| |").count(10), 0);
        WordFlasher y = of("a b. | |");
        y.run(9999);
        due("back behind marks at the end", y.back(), 0);
    }

    private static void slowing() {
        String text = "a bbbbb ccccccccc d e f";
        WordFlasher x = slow(text);
        x.back();
        dueSpeeds("the present one", x, 90, 100, 100);
        duePresent("ahead of the going", x, 0, 167);
        x.run(167);
        x.back();
        dueSpeeds("two of one class, one of the next", x, 80, 90, 100);
        WordFlasher three = of(text);
        three.run(18 + 30 + 1);
        three.back();
        dueSpeeds("three classes", three, 90, 90, 90);
        WordFlasher far = of(text);
        far.run(18 + 30 + 54 + 1);
        far.back();
        dueSpeeds("three words", far, 90, 90, 90);
        far.back();
        dueSpeeds("the ones gone to count, too", far, 80, 90, 80);
        WordFlasher last = of(text);
        last.run(18 + 30 + 54 + 18 + 18 + 1);
        last.back();
        dueSpeeds("three words of one class", last, 90, 100, 100);
        WordFlasher end = of("ccccccccc bbbbb a");
        end.set(6, 0);
        end.run(9999);
        end.back();
        dueSpeeds("behind the end", end, 90, 90, 90);
        WordFlasher low = of("a bbbbb");
        low.set(5, 50);
        low.speed(0, 99);
        low.back();
        dueSpeeds("not below 50", low, 50, 100, 100);
        low.back();
        dueSpeeds("at 50", low, 50, 100, 100);
        WordFlasher altered = of("bbbbb a");
        altered.run(31);
        altered.append('.');
        altered.back();
        dueSpeeds("since the text was altered", altered, 100, 90, 100);
        WordFlasher places = of("bbbbb. a. a. a.");
        places.set(6, 0);
        places.jump(1);
        places.jump(2);
        places.goBack();
        places.back();
        dueSpeeds("jumped and returned to", places, 90, 100, 100);
    }

    // ---- promise 12

    private static void jumps() {
        WordFlasher x = of("a b. | c d. e");
        due("jump(-1)", x.jump(-1), INVALID);
        due("jump(4)", x.jump(4), INVALID);
        due("jump to a mark", x.jump(1), IMPOSSIBLE);
        due("jump wrong: places", x.count(6), 0);
        x.run(20);
        due("jump(2)", x.jump(2), 3);
        duePresent("jump(2)", x, 3, 18);
        due("jump: places", x.count(6), 1);
        due("jump to the same", x.jump(2), 3);
        due("jump back", x.jump(0), 0);
        due("jump: no asking back", x.count(10), 0);
        x.jump(3);
        x.run(9999);
        due("jump behind the end", x.jump(0), IMPOSSIBLE);
        due("jump wrong behind the end", x.jump(4), INVALID);
        due("jump of nothing", new WordFlasher().jump(0), INVALID);
        due("jump of a mark", of("|").jump(0), IMPOSSIBLE);
        due("jump behind a mark", of("| a").jump(1), 1);
    }

    // ---- promise 13

    private static void returns() {
        WordFlasher x = of("a. b. c. d. e. f. g. h.");
        due("goBack, no place", x.goBack(), IMPOSSIBLE);
        for (int s = 1; s <= 7; s++) {
            due("jump(" + s + ")", x.jump(s), s);
            due("places", x.count(6), Math.min(s, 5));
        }
        x.run(10);
        for (int place = 6; place >= 2; place--) {
            due("goBack to " + place, x.goBack(), place);
            duePresent("with its whole time", x, place, 40);
        }
        due("goBack, the lowest ones dropped", x.goBack(), IMPOSSIBLE);

        WordFlasher y = of("a b c. d");
        y.run(20);
        y.jump(1);
        y.run(9999);
        due("goBack behind the end", y.goBack(), 1);
        duePresent("goBack behind the end", y, 1, 18);
        due("places then", y.count(6), 0);
    }

    private static void altering() {
        WordFlasher x = of("a b. c d e");
        x.note(4, 9);
        x.note(3, 8);
        x.speed(0, 200);
        x.jump(1);
        x.run(3);
        due("append a blank", x.append(' '), 5);
        duePresent("append a blank", x, 0, 9);
        due("places", x.count(6), 0);
        due("ticks stay", x.count(8), 3);
        dueSpeeds("speeds stay", x, 200, 100, 100);
        due("notes stay", x.count(7), 2);
        x.cut(3);
        due("a note without a word", x.count(7), 1);
        append(x, " | f");
        due("a note on its number", x.word(3, 9), 8);
        due("no note comes again", x.word(4, 9), 0);
        x.note(5, 7);
        x.cut(1);
        x.append('|');
        due("a note on a mark", x.word(5, 9), 0);
        due("notes then", x.count(7), 1);
        x.append('|');
        due("no mark any more", x.word(5, 4), 0);
        due("its note is gone", x.word(5, 9), 0);
        WordFlasher first = of("a");
        first.note(0, 4);
        first.cut(1);
        due("a note without the first word", first.count(7), 0);
        append(first, "b");
        first.note(0, 5);
        first.cut(1);
        append(first, "| c");
        due("a note on a first word that is a mark", first.noted(0, 0), MISSING);
        WordFlasher y = of("a b");
        y.run(20);
        y.cut(3);
        duePresent("no word", y, MISSING, MISSING);
        append(y, "|");
        duePresent("no shown word", y, MISSING, MISSING);
        append(y, "x");
        duePresent("a shown word", y, 0, 18);
    }

    // ---- promises 14 and 15

    private static void ifRun() {
        WordFlasher x = slow("a. b. c.");
        due("ifRun(0)", x.ifRun(0), INVALID);
        due("ifRun(10000)", x.ifRun(10000), INVALID);
        due("ifRun(329)", x.ifRun(329), 0);
        due("ifRun(330)", x.ifRun(330), 1);
        due("ifRun with the growth", x.ifRun(330 + 323), 1);
        due("ifRun with the growth, a tick more", x.ifRun(330 + 324), 2);
        due("ifRun to the last", x.ifRun(330 + 324 + 317), 2);
        due("ifRun behind the end", x.ifRun(330 + 324 + 318), MISSING);
        duePresent("ifRun changes nothing", x, 0, 330);
        dueSpeeds("ifRun changes nothing", x, 100, 100, 100);
        due("ifRun: ticks", x.count(8), 0);
        x.run(9999);
        due("ifRun, all shown", x.ifRun(1), IMPOSSIBLE);
        due("ifRun wrong, all shown", x.ifRun(0), INVALID);
        due("ifRun of nothing", new WordFlasher().ifRun(1), IMPOSSIBLE);
    }

    private static void left() {
        WordFlasher x = slow("a b. c d, e! | f");
        due("left", x.left(), 150 + 330 + 148 + 221 + 324 + 145);
        due("left again", x.left(), 1318);
        duePresent("left changes nothing", x, 0, 150);
        dueSpeeds("left changes nothing", x, 100, 100, 100);
        x.run(100);
        due("left later", x.left(), 1218);
        x.back();
        // at 90: 167, 367, and without growth for the sentence gone back to 167, 250, 367; at 92: 164
        due("left after asking back", x.left(), 167 + 367 + 167 + 250 + 367 + 164);
        int left = x.left();
        x.run(left - 1);
        due("left at last", x.left(), 1);
        x.run(1);
        due("left, all shown", x.left(), IMPOSSIBLE);
        due("left of nothing", new WordFlasher().left(), IMPOSSIBLE);
        due("left of a mark", of("|").left(), IMPOSSIBLE);
        WordFlasher far = new WordFlasher();
        far.set(0, 50);
        far.set(1, 10);
        far.set(3, 400);
        far.set(4, 300);
        far.set(6, 0);
        far.speed(0, 50);
        append(far, repeat("1. ", 100));
        due("left of a long text", far.left(), 100 * 12000);
    }

    // ---- promise 16

    private static void undo() {
        WordFlasher x = new WordFlasher();
        due("undo of nothing", x.undo(), IMPOSSIBLE);
        append(x, "ab.");
        due("undo", x.undo(), 2);
        due("undo: length", x.count(0), 2);
        due("undo: closing", x.word(0, 4), 0);
        due("undo: states", x.count(11), 2);
        due("undo again", x.undo(), 1);
        due("undo a third time", x.undo(), 0);
        due("undo: words", x.count(1), 0);
        due("undo at the end", x.undo(), IMPOSSIBLE);
        for (int i = 0; i < 7; i++) {
            x.append('a');
        }
        due("undo of five", x.undo(), 3);
        x.undo();
        x.undo();
        due("undo, the fourth one", x.undo(), 0);
        due("undo, the oldest one dropped", x.undo(), IMPOSSIBLE);
        due("undo: what is left", x.count(0), 3);
    }

    private static int[] everything(WordFlasher x) {
        int[] row = new int[14 + 7 + 3 + 4 * x.count(1)];
        int filled = 0;
        for (int what = 0; what <= 32; what++) {
            if (what != 11 && x.count(what) != INVALID) {
                row[filled++] = x.count(what);
            }
        }
        for (int w = 0; w < x.count(1); w++) {
            row[filled++] = x.word(w, 0);
            row[filled++] = x.word(w, 2);
            row[filled++] = x.word(w, 4);
            row[filled++] = x.word(w, 9);
        }
        return row;
    }

    private static WordFlasher beforeChanges() {
        WordFlasher x = of("a b. ccccc | d e. f");
        x.note(1, 11);
        x.jump(2);
        x.run(19);
        return orders(x, "n5;b;u;r50;j0;");
    }

    private static void undone(String name, ToIntFunction<WordFlasher> change) {
        WordFlasher x = beforeChanges();
        due(name + " is a change", change.applyAsInt(x) < 0 ? 0 : 1, 1);
        x.undo();
        dueRow(name + " undone", everything(x), everything(beforeChanges()));
        due(name + " undone: the place", x.goBack(), 0);
    }

    private static void undoRestoresEverything() {
        undone("append", x -> x.append('x'));
        undone("cut", x -> x.cut(9));
        undone("set", x -> x.set(0, 50));
        undone("speed", x -> x.speed(1, 50));
        undone("run", x -> x.run(500));
        undone("back", WordFlasher::back);
        undone("jump", x -> x.jump(0));
        undone("goBack", WordFlasher::goBack);
        undone("note", x -> x.note(0, 3));
        undone("unnote", x -> x.unnote(1));
        undone("carry", WordFlasher::carry);
        due("carry", beforeChanges().carry(), 5);
        WordFlasher other = beforeChanges();
        other.cut(12);
        append(other, "|,;");
        for (int state = 0; state < 4; state++) {
            other.undo();
        }
        dueRow("cut undone behind other characters", everything(other), everything(beforeChanges()));
    }

    private static void undoRestoresWhatIsNotShown() {
        WordFlasher x = of("a b. ccccc | d e. f");
        x.set(5, 0);
        x.jump(0);
        x.back();
        x.undo();
        x.run(58);
        dueSpeeds("an asking back undone: growth", x, 102, 100, 100);
        WordFlasher y = of("bbbbb a b c d");
        y.run(31);
        y.run(54);
        y.undo();
        y.back();
        dueSpeeds("a run undone: the latest words", y, 90, 90, 100);
        orders(y, "b;b;");
        y.undo();
        due("the order text stays", y.count(12), 4);
    }

    private static void history() {
        WordFlasher x = of("a");
        while (x.undo() > 0) {
            continue;
        }
        append(x, "a b");
        while (x.undo() > 0) {
            continue;
        }
        append(x, "b. c");
        due("history at most 4", x.count(11), 4);
        while (x.count(11) > 0) {
            x.undo();
        }
        x.order('b');
        x.order(';');
        x.clearOrders();
        x.count(0);
        x.ifRun(1);
        x.left();
        x.longest(0);
        x.speedFor(0, 100);
        x.noted(0, 0);
        x.fault();
        due("questions and order texts are no changes", x.count(11), 0);
        x.run(0);
        x.jump(9);
        x.goBack();
        x.note(9, 1);
        x.unnote(0);
        x.set(0, 0);
        x.speed(0, 0);
        x.cut(0);
        x.cut(299);
        x.append(0);
        x.order('x');
        x.carry();
        due("errors are no changes", x.count(11), 0);
        x.set(0, x.count(20));
        due("a change to the same is one", x.count(11), 1);
    }

    // ---- promises 17 to 19

    private static void notes() {
        WordFlasher x = of("a b c | e f g h i j k l");
        due("note(0, 0)", x.note(0, 0), INVALID);
        due("note(0, 100)", x.note(0, 100), INVALID);
        due("note(-1, 1)", x.note(-1, 1), INVALID);
        due("note(12, 1)", x.note(12, 1), INVALID);
        due("note(3, 1)", x.note(3, 1), IMPOSSIBLE);
        due("note(3, 0)", x.note(3, 0), INVALID);
        int have = 0;
        for (int w = 0; w < 11; w++) {
            if (w != 3) {
                have++;
                due("note(" + w + ", " + (90 + have - 1) + ")", x.note(w, 90 + have - 1), have);
            }
        }
        due("note: one too many", x.note(11, 1), LIMIT);
        due("note: a mark at the limit", x.note(3, 1), IMPOSSIBLE);
        due("note: wrong at the limit", x.note(11, 100), INVALID);
        due("note: in place of one", x.note(10, 1), 10);
        due("note: the new one", x.word(10, 9), 1);
        due("note: the first one", x.word(0, 9), 90);
        due("note: notes", x.count(7), 10);
        due("note 99", of("a").note(0, 99), 1);
        due("note 1", of("a").note(0, 1), 1);
    }

    private static void unnote() {
        WordFlasher x = of("a b |");
        due("unnote(0), none", x.unnote(0), MISSING);
        due("unnote(-1)", x.unnote(-1), INVALID);
        due("unnote(3)", x.unnote(3), INVALID);
        due("unnote of a mark", x.unnote(2), MISSING);
        x.note(0, 42);
        due("unnote(1), none", x.unnote(1), MISSING);
        due("unnote(0)", x.unnote(0), 42);
        due("unnote: notes", x.count(7), 0);
        due("unnote: word", x.word(0, 9), 0);
        due("unnote again", x.unnote(0), MISSING);
    }

    private static void noted() {
        WordFlasher x = of("a b c d e f");
        due("noted(0, 0), none", x.noted(0, 0), MISSING);
        due("noted(6, 1), none", x.noted(6, 1), MISSING);
        x.note(1, 1);
        x.note(4, 2);
        int[] behind = {1, 1, 4, 4, 4, MISSING, MISSING};
        int[] before = {MISSING, MISSING, 1, 1, 1, 4, 4};
        for (int from = 0; from < behind.length; from++) {
            due("noted(" + from + ", 0)", x.noted(from, 0), behind[from]);
            due("noted(" + from + ", 1)", x.noted(from, 1), before[from]);
        }
        due("noted(most, 0)", x.noted(Integer.MAX_VALUE, 0), MISSING);
        due("noted(most, 1)", x.noted(Integer.MAX_VALUE, 1), 4);
        due("noted(151, 1)", x.noted(151, 1), 4);
        due("noted(-1, 0)", x.noted(-1, 0), INVALID);
        due("noted(-1, 1)", x.noted(-1, 1), INVALID);
        due("noted(0, 2)", x.noted(0, 2), INVALID);
        due("noted(0, -1)", x.noted(0, -1), INVALID);
        x.note(0, 3);
        due("noted(0, 0), the first word", x.noted(0, 0), 0);
        due("noted(1, 1), the first word", x.noted(1, 1), 0);
        due("noted(0, 1), nothing before", x.noted(0, 1), MISSING);
        WordFlasher full = of(repeat("a ", 150));
        full.note(149, 3);
        due("noted, the last word", full.noted(149, 0), 149);
        due("noted before 150", full.noted(150, 1), 149);
        due("noted before 149", full.noted(149, 1), MISSING);
    }

    // ---- promise 20

    private static void longest() {
        WordFlasher x = of("a bbbbb | c, ddddd e");
        int[] want = {1, 4, 3, 0, 5};
        for (int i = 0; i < want.length; i++) {
            due("longest(" + i + ")", x.longest(i), want[i]);
        }
        due("longest(5)", x.longest(5), MISSING);
        due("longest(most)", x.longest(Integer.MAX_VALUE), MISSING);
        due("longest(-1)", x.longest(-1), INVALID);
        due("longest(least)", x.longest(Integer.MIN_VALUE), INVALID);
        x.speed(0, 50);
        int[] then = {3, 0, 5, 1, 4};
        for (int i = 0; i < then.length; i++) {
            due("longest(" + i + ") then", x.longest(i), then[i]);
        }
        due("longest of nothing", new WordFlasher().longest(0), MISSING);
        due("longest of marks", of("| |").longest(0), MISSING);
    }

    // ---- promise 21

    private static void speedFor() {
        WordFlasher x = of("a b | | c. ddddd");
        x.speed(0, 400);
        due("speedFor(0, 36)", x.speedFor(0, 36), 100);
        due("speedFor(0, 35)", x.speedFor(0, 35), 106);
        due("speedFor(0, 34)", x.speedFor(0, 34), 106);
        due("speedFor(0, 72)", x.speedFor(0, 72), 50);
        due("speedFor(0, 71)", x.speedFor(0, 71), 52);
        due("speedFor(0, 10)", x.speedFor(0, 10), 360);
        due("speedFor(0, 9)", x.speedFor(0, 9), MISSING);
        due("speedFor(0, 100000)", x.speedFor(0, 100000), 50);
        due("speedFor(0, 0)", x.speedFor(0, 0), MISSING);
        due("speedFor(1, 0)", x.speedFor(1, 0), 50);
        due("speedFor(2, 70)", x.speedFor(2, 70), 100);
        due("speedFor(0, -1)", x.speedFor(0, -1), INVALID);
        due("speedFor(0, 100001)", x.speedFor(0, 100001), INVALID);
        due("speedFor(3, 1)", x.speedFor(3, 1), INVALID);
        due("speedFor(-1, 1)", x.speedFor(-1, 1), INVALID);
        dueSpeeds("speedFor changes nothing", x, 400, 100, 100);
        WordFlasher fast = of("aaaaaaaaaa");
        fast.set(0, 40);
        due("speedFor at 400", fast.speedFor(0, 100), 400);
        due("speedFor at 399", fast.speedFor(0, 101), 397);
        due("speedFor above 400", fast.speedFor(0, 99), MISSING);
    }

    // ---- promises 22 to 24

    private static void orderText() {
        WordFlasher x = of("a");
        due("order(31)", x.order(31), INVALID);
        due("order(127)", x.order(127), INVALID);
        for (int i = 1; i <= 60; i++) {
            due("order " + i, x.order(i % 2 == 1 ? 32 : 126), i);
        }
        due("order at 60", x.order('b'), LIMIT);
        due("order wrong at 60", x.order(31), INVALID);
        due("order: length", x.count(12), 60);
    }

    private static void clearOrders() {
        WordFlasher x = of("a");
        due("clearOrders, empty", x.clearOrders(), 0);
        orders(x, "b;x");
        due("clearOrders", x.clearOrders(), 3);
        due("clearOrders: length", x.count(12), 0);
        due("clearOrders: no fault", x.fault(), MISSING);
        due("clearOrders: new orders", orders(x, "b").fault(), 0);
        due("clearOrders: nothing of the old ones", orders(x, "u;").fault(), MISSING);
        orders(x, repeat("b;", 30));
        due("clearOrders of 60", x.clearOrders(), 60);
        due("order behind it", x.order('b'), 1);
    }

    private static void dueFault(String orders, int want) {
        due("fault of '" + orders + "'", orders(new WordFlasher(), orders).fault(), want);
    }

    private static void faults() {
        String[] right = {"", "b;", "u;", "r1;", "r999;", "r001;", "j0;", "j999;", "j000;", "n1;", "n99;", "n099;",
            "n001;", "b;u;r5;j0;n7;b;", repeat("b;", 30), repeat("r999;", 12)};
        for (String orders : right) {
            dueFault(orders, MISSING);
        }
        String[] wrong = {"b", "u", ";", " ", "b ;", " b;", "r;", "r0;", "r000;", "r1000;", "r0001;", "r12345;",
            "r1", "r", "j;", "j1000;", "j0000;", "n;", "n0;", "n100;", "n0001;", "n999;", "b1;", "u0;", "B;", "R1;",
            "x;", "x1;", "r-1;", "r+1;", "r1 ;", "r 1;", "5;", "rr1;", "r1b;", "j/;", "j:;",
            repeat("1", 60), repeat("r", 60)};
        for (String orders : wrong) {
            dueFault(orders, 0);
            if (orders.length() <= 49) {
                dueFault("b;r10;u;j3;" + orders, 11);
                dueFault("b;" + orders + "b;x;", 2);
            }
        }
        dueFault("b;;u;", 2);
        dueFault("b;r0;n0;", 2);
        dueFault(repeat("b;", 29) + "r1", 58);
        dueFault(repeat("b;", 29) + "b ", 58);
        dueFault(repeat("r999;", 11) + "r9999", 55);
    }

    // ---- promise 25

    private static void carry() {
        WordFlasher x = of("a b. c d. e");
        due("carry of nothing", x.carry(), 0);
        due("carry of nothing is a change", x.undo(), 3);
        orders(x, "r18;n5;j1;n6;r20;b;u;b;r9;");
        due("carry", x.carry(), 9);
        due("carry: the first note", x.word(1, 9), 5);
        due("carry: the second note", x.word(2, 9), 6);
        due("carry: askings", x.count(10), 2);
        due("carry: words shown", x.count(9), 2);
        due("carry: ticks", x.count(8), 18 + 20 + 9);
        due("carry: places", x.count(6), 0);
        dueSpeeds("carry", x, 80, 100, 100);
        duePresent("carry", x, 0, 23 - 9);
        due("carry: the order text stays", x.count(12), 26);
        due("carry is one change", x.count(11), 4);
        x.undo();
        duePresent("carry undone", x, 0, 18);
        due("carry undone: notes", x.count(7), 0);
        due("carry undone: the order text stays", x.count(12), 26);
        orders(x, "r18;r0;");
        due("carry of a fault", x.carry(), IMPOSSIBLE);
        duePresent("carry of a fault", x, 0, 18);
        due("carry of a fault is no change", x.count(11), 3);
        WordFlasher y = of("a");
        while (y.count(11) > 0) {
            y.undo();
        }
        append(y, "b");
        orders(y, "b;b;b;b;b;b;");
        due("carry of six", y.carry(), 6);
        due("carry of six: states", y.count(11), 2);
        due("carry with zeros ahead", orders(of("a. b"), "r007;n009;j001;").carry(), 3);
        WordFlasher z = orders(of("a"), "r017;n099;");
        z.carry();
        duePresent("r017", z, 0, 1);
        due("n099", z.word(0, 9), 99);
    }

    private static void carryStops() {
        WordFlasher x = of("a. | b");
        due("at a run behind the end", orders(x, "r999;r1;b;").carry(), 1);
        duePresent("at a run behind the end", x, MISSING, MISSING);
        due("at a note behind the end", orders(x, "n1;b;").carry(), 0);
        due("back behind the end", orders(x, "b;j1;b;").carry(), 1);
        due("at a jump to a mark: present", x.count(4), 2);
        due("at a jump to no sentence", orders(x, "b;j3;b;").carry(), 1);
        due("at a return to no place", orders(x, "j0;u;u;b;").carry(), 2);
        due("at the return: present", x.count(4), 0);
        due("at a jump behind the end", orders(x, "r999;j0;").carry(), 1);
        due("at the first one, but a change", orders(x, "u;").carry(), 0);
        due("at the first one: states", x.count(11), 4);
        due("of nothing", orders(new WordFlasher(), "b;").carry(), 0);
        due("of nothing: a jump", orders(new WordFlasher(), "j0;").carry(), 0);
        WordFlasher y = of("a b c d e f g h i j k l");
        for (int w = 1; w <= 10; w++) {
            y.note(w, w);
        }
        due("at a note at the limit", orders(y, "n1;r18;").carry(), 0);
        due("at a note at the limit: notes", y.count(7), 10);
        due("a note in place of one at the limit", orders(y, "r18;n55;r18;").carry(), 3);
        due("the note in place", y.word(1, 9), 55);
    }
}
