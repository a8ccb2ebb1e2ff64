/**
 * A test of its own for each sentence of the document that names a boundary, which stands above the test:
 * orders, changes and the history, questions.
 */
public final class OrderEdgesTest extends Checks {
    private OrderEdgesTest() {
    }

    public static void main(String[] args) {
        orderTexts();
        changes();
        questions();
        DUES.end();
    }

    // ---- orders

    private static void orderTexts() {
        orderLength();
        clearEdges();
        orderForms();
        numberRanges();
        digits();
        faultPositions();
        emptyOrders();
        firstNotPossible();
        notePossible();
        jumpPossible();
        runPossible();
        oneChange();
    }

    /** "There is an order text of at most 60 characters, initially empty" */
    private static void orderLength() {
        WordFlasher x = new WordFlasher();
        due("empty at first", x.count(12), 0);
        orders(x, repeat("b", 58));
        due("the 59th", x.order(';'), 59);
        due("the 60th", x.order('b'), 60);
        due("the 61st", x.order(';'), LIMIT);
        due("60 at most", x.count(12), 60);
        due("cleared", x.clearOrders(), 60);
        due("the first again", x.order('b'), 1);
    }

    /** "Returns the length it had." */
    private static void clearEdges() {
        WordFlasher x = new WordFlasher();
        due("empty", x.clearOrders(), 0);
        x.order('b');
        due("one", x.clearOrders(), 1);
        due("empty again", x.clearOrders(), 0);
        orders(x, "r999;");
        orders(x, "r9");
        due("nothing of the older text", x.fault(), 0);
        x.order(';');
        due("the newer text alone", x.fault(), MISSING);
    }

    private static void dueFault(String orders, int want) {
        due("fault of '" + orders + "'", orders(new WordFlasher(), orders).fault(), want);
    }

    /** "a sequence of orders, each followed by ;" */
    private static void orderForms() {
        for (char c = 32; c <= 126; c++) {
            dueFault(c + ";", c == 'b' || c == 'u' ? MISSING : 0);
            dueFault(c + "1;", c == 'r' || c == 'j' || c == 'n' ? MISSING : 0);
            dueFault("b" + c, c == ';' ? MISSING : 0);
            dueFault("b" + c + ";", c == ';' ? 2 : 0);
            dueFault("r1" + c, c == ';' ? MISSING : 0);
            dueFault("r1" + c + ";", c >= '0' && c <= '9' ? MISSING : c == ';' ? 3 : 0);
            dueFault("j" + c + ";", c >= '0' && c <= '9' ? MISSING : 0);
            dueFault("n" + c + ";", c >= '1' && c <= '9' ? MISSING : 0);
        }
    }

    /** "1 to 999", "0 to 999", "1 to 99" */
    private static void numberRanges() {
        for (int number = 0; number <= 999; number++) {
            dueFault("r" + number + ";", number >= 1 ? MISSING : 0);
            dueFault("j" + number + ";", MISSING);
            dueFault("n" + number + ";", number >= 1 && number <= 99 ? MISSING : 0);
        }
        for (String letter : new String[] {"r", "j", "n"}) {
            dueFault(letter + "1000;", 0);
            dueFault(letter + "9999999999;", 0);
            dueFault(letter + "-1;", 0);
        }
    }

    /** "numbers with 1 to 3 digits, zeros may stand ahead" */
    private static void digits() {
        String[] right = {"r1;", "r01;", "r001;", "r010;", "j0;", "j00;", "j000;", "j007;", "n9;", "n09;", "n009;",
            "n099;"};
        for (String orders : right) {
            dueFault(orders, MISSING);
        }
        String[] wrong = {"r;", "r0001;", "r0010;", "j;", "j0000;", "j0007;", "n;", "n0009;", "n0099;", "r00;", "n000;",
            "n100;"};
        for (String orders : wrong) {
            dueFault(orders, 0);
        }
        WordFlasher x = orders(of("a. b"), "r001;n010;j01;");
        due("zeros ahead", x.carry(), 3);
        due("zeros ahead: ticks", x.count(8), 1);
        due("zeros ahead: the note", x.word(0, 9), 10);
        due("zeros ahead: the word", x.count(4), 1);
    }

    /** "the position, from 0, of the first character of the first order that is not of this form .." */
    private static void faultPositions() {
        dueFault("", MISSING);
        dueFault(";", 0);
        dueFault("b;;", 2);
        dueFault("b; b;", 2);
        dueFault("b;b", 2);
        dueFault("b;r", 2);
        dueFault("b;r12", 2);
        dueFault("b;r0;j1000;", 2);
        dueFault("r999;j000;n099;u;x;", 17);
        dueFault(repeat("b;", 30), MISSING);
        dueFault(repeat("b;", 29) + "bb", 58);
        dueFault(repeat("b;", 29) + ";;", 58);
        dueFault(repeat("n99;", 15), MISSING);
        dueFault(repeat("n99;", 14) + "n100", 56);
        dueFault(repeat("n99;", 14) + "n000", 56);
        dueFault(repeat("9", 60), 0);
        dueFault(repeat(";", 60), 0);
        dueFault(repeat(" ", 60), 0);
    }

    /** "NOT_FOUND if it has none (also if it is empty)" - and carried out, it is no order. */
    private static void emptyOrders() {
        WordFlasher x = of("a");
        due("no fault", x.fault(), MISSING);
        due("states", x.count(11), 1);
        due("carry", x.carry(), 0);
        due("a call that returns no error is a change", x.count(11), 2);
        due("carry of no text", of("").carry(), 0);
    }

    /** "The orders are carried out one after the other, until one is not possible." */
    private static void firstNotPossible() {
        WordFlasher x = orders(of("a. b"), "u;n5;");
        due("the first", x.carry(), 0);
        due("nothing behind it", x.count(7), 0);
        orders(x, "n5;u;n6;");
        due("the second", x.carry(), 1);
        due("what stands ahead of it", x.word(0, 9), 5);
        orders(x, "n6;j1;u;u;");
        due("the last", x.carry(), 3);
        orders(x, "n7;j1;u;");
        due("none", x.carry(), 3);
        due("all notes in place", x.word(0, 9), 7);
        due("thirty orders", orders(x, repeat("b;", 30)).carry(), 30);
        due("thirty askings back", x.count(10), 30);
        due("twelve orders", orders(of("a"), repeat("n099;", 12)).carry(), 12);
        WordFlasher y = orders(of("a"), "n5;b");
        due("a fault behind", y.carry(), IMPOSSIBLE);
        due("nothing ahead of a fault", y.count(7), 0);
        due("back without shown words", orders(of("|"), "b;").carry(), 0);
        due("back behind the end", orders(of("a"), "r18;b;").carry(), 2);
    }

    /** "(that of a note also at the limit ..)" */
    private static void notePossible() {
        WordFlasher x = of("a b c d e f g h i j k");
        for (int word = 0; word < 9; word++) {
            x.note(word + 1, 1);
        }
        due("the tenth", orders(x, "n5;").carry(), 1);
        due("the tenth", x.count(7), 10);
        due("in place", orders(x, "n6;").carry(), 1);
        x.jump(0);
        x.unnote(0);
        x.note(10, 9);
        due("the eleventh", orders(x, "n7;b;").carry(), 0);
        due("the eleventh", x.word(0, 9), 0);
        due("no present word", orders(of("a"), "r18;n7;").carry(), 1);
        due("no word", orders(of(""), "n7;").carry(), 0);
        due("marks alone", orders(of("|"), "n7;").carry(), 0);
    }

    /** "(.. that of a jump also to no sentence)" */
    private static void jumpPossible() {
        due("no sentence 1", orders(of("a"), "j1;b;").carry(), 0);
        due("no sentence 999", orders(of("a"), "j999;b;").carry(), 0);
        due("no text", orders(of(""), "j0;").carry(), 0);
        due("the last sentence", orders(of("a. b"), "j1;b;").carry(), 2);
        due("no shown word", orders(of("a | | b"), "j1;b;").carry(), 0);
        due("no present word", orders(of("a"), "r999;j0;").carry(), 1);
    }

    /** "run so many ticks": those behind the end count for nothing, and behind it there are none to go by. */
    private static void runPossible() {
        due("no text", orders(of(""), "r1;").carry(), 0);
        due("marks alone", orders(of("|"), "r1;").carry(), 0);
        WordFlasher x = orders(of("a"), "r999;r1;");
        due("behind the end", x.carry(), 1);
        due("ticks", x.count(8), 18);
        due("just to the end", orders(of("a b"), "r18;r18;r1;").carry(), 2);
        due("a tick ahead", orders(of("a b"), "r18;r17;r1;").carry(), 3);
    }

    /** "They are one change. The order text stays." */
    private static void oneChange() {
        WordFlasher x = orders(of("a. b"), "r5;n3;j1;b;u;b;");
        due("six orders", x.carry(), 6);
        due("askings", x.count(10), 2);
        due("the text stays", x.count(12), 15);
        due("undone", x.undo(), 3);
        duePresent("undone", x, 0, 40);
        due("undone: notes", x.count(7), 0);
        due("undone: places", x.count(6), 0);
        due("undone: askings", x.count(10), 0);
        due("undone: ticks", x.count(8), 0);
        dueSpeeds("undone", x, 100, 100, 100);
        due("the text stays behind undo", x.count(12), 15);
        due("carried out again", x.carry(), 6);
    }

    // ---- changes

    private static void changes() {
        fourStates();
        eachIsAChange();
        noChanges();
        allButTheOrderText();
    }

    /** "A history of at most 4 states is kept .. if there are 5 states then, the oldest one is dropped." */
    private static void fourStates() {
        for (int many = 0; many <= 10; many++) {
            WordFlasher x = of("");
            for (int i = 1; i <= many; i++) {
                due("set", x.set(0, 10 + i), i == 1 ? 6 : 9 + i);
                due("states", x.count(11), Math.min(i, 4));
            }
            int states = Math.min(many, 4);
            for (int undone = 1; undone <= states; undone++) {
                due(many + " changes, undone " + undone, x.undo(), states - undone);
                due("the setting", x.count(20), many == undone ? 6 : 10 + many - undone);
            }
            due(many + " changes, no state left", x.undo(), IMPOSSIBLE);
            due("none", x.count(11), 0);
        }
        WordFlasher y = of("abcdef");
        y.undo();
        y.undo();
        append(y, "xyz");
        due("full once more", y.count(11), 4);
        int[] lengths = {6, 5, 4, 3};
        for (int length : lengths) {
            y.undo();
            due("one by one", y.count(0), length);
        }
        due("at its end", y.undo(), IMPOSSIBLE);
    }

    /** "The changes are the calls of append, cut, set, speed, run, back, jump, goBack, note, unnote and carry .." */
    private static void eachIsAChange() {
        WordFlasher x = of("a");
        due("append", x.count(11), 1);
        x.cut(1);
        due("cut", x.count(11), 2);
        x.undo();
        x.set(5, 10);
        due("set to the same", x.count(11), 2);
        x.speed(0, 100);
        due("speed to the same", x.count(11), 3);
        x.undo();
        x.undo();
        x.run(1);
        due("run", x.count(11), 2);
        x.back();
        due("back", x.count(11), 3);
        x.undo();
        x.undo();
        x.jump(0);
        due("jump", x.count(11), 2);
        x.goBack();
        due("goBack", x.count(11), 3);
        x.undo();
        x.undo();
        x.note(0, 1);
        due("note", x.count(11), 2);
        x.unnote(0);
        due("unnote", x.count(11), 3);
        x.carry();
        due("carry", x.count(11), 4);
    }

    /** .. and no others are. */
    private static void noChanges() {
        WordFlasher x = of("a");
        x.word(0, 8);
        x.sentence(0, 2);
        x.page(0, 2);
        x.count(13);
        x.ifRun(50);
        x.left();
        x.noted(0, 0);
        x.longest(0);
        x.speedFor(0, 10);
        x.order('b');
        x.order(';');
        x.fault();
        x.clearOrders();
        due("questions and the order text", x.count(11), 1);
        due("undo", x.undo(), 0);
        due("undo is none", x.count(11), 0);
    }

    /** "each change records everything before it but the order text" */
    private static void allButTheOrderText() {
        WordFlasher x = orders(of("a. b"), "b;");
        x.jump(1);
        orders(x, "n7;u;");
        x.undo();
        due("the order text stays", x.count(12), 5);
        due("the newer one is carried out", x.carry(), 1);
        due("the newer one is carried out", x.word(0, 9), 7);
        x.undo();
        due("and stays", x.count(12), 5);
        x.clearOrders();
        x.set(0, 9);
        x.undo();
        due("cleared stays cleared", x.count(12), 0);
        WordFlasher text = of("ab. c");
        text.cut(3);
        append(text, "x,");
        text.undo();
        text.undo();
        text.undo();
        dueRow("the characters: closings", ofWords(text, 4), 2, 0);
        dueRow("the characters: lengths", ofWords(text, 2), 2, 1);
        WordFlasher shown = of("a. b. c");
        shown.jump(2);
        shown.jump(1);
        shown.goBack();
        shown.goBack();
        shown.jump(1);
        shown.jump(2);
        for (int state = 0; state < 4; state++) {
            shown.undo();
        }
        due("the places", shown.goBack(), 2);
        due("the place below", shown.goBack(), 0);
        shown.run(40);
        shown.undo();
        due("words shown to their end", shown.count(9), 0);
        due("ticks", shown.count(8), 0);
    }

    // ---- questions

    private static void questions() {
        numbersOfThings();
        countNumbers();
        ifRunEdges();
        leftEdges();
        longestEdges();
        speedForEdges();
    }

    /** "INVALID_ARGUMENT if an argument is out of range", of word, sentence and page. */
    private static void numbersOfThings() {
        WordFlasher x = of("a. | b");
        for (int number : new int[] {-1, 3, 149, 150, LEAST, MOST}) {
            due("word " + number, x.word(number, 0), INVALID);
            due("sentence " + number, x.sentence(number, 0), INVALID);
            due("page " + number, x.page(number, 0), INVALID);
        }
        due("the last word", x.word(2, 0), 5);
        due("the last sentence", x.sentence(2, 0), 2);
        due("the last page", x.page(1, 0), 2);
        due("no page behind it", x.page(2, 0), INVALID);
        for (int what : new int[] {-1, 11, 12, LEAST, MOST}) {
            due("word(0, " + what + ")", x.word(0, what), INVALID);
        }
        for (int what : new int[] {-1, 4, 5, LEAST, MOST}) {
            due("sentence(0, " + what + ")", x.sentence(0, what), INVALID);
            due("page(0, " + what + ")", x.page(0, what), INVALID);
        }
        due("word(0, 10)", x.word(0, 10), 0);
        due("sentence(0, 3)", x.sentence(0, 3), 1);
        due("page(0, 3)", x.page(0, 3), 2);
        for (int what = 0; what <= 10; what++) {
            due("word of nothing", of("").word(0, what), INVALID);
            due("sentence of nothing", of("").sentence(0, what), INVALID);
            due("page of nothing", of("").page(0, what), INVALID);
        }
    }

    /** "what: 0 .. 13 ..; 20 to 26: the settings 0 to 6; 30 to 32: the speeds of the classes 0 to 2" */
    private static void countNumbers() {
        WordFlasher x = of("a");
        for (int what = -3; what <= 140; what++) {
            boolean known = what >= 0 && what <= 13 || what >= 20 && what <= 26 || what >= 30 && what <= 32;
            due("count(" + what + ") is known", x.count(what) == INVALID ? 0 : 1, known ? 1 : 0);
        }
        due("count(least)", x.count(LEAST), INVALID);
        due("count(most)", x.count(MOST), INVALID);
        due("no present word", of("").count(4), MISSING);
        due("no rest", of("").count(5), MISSING);
        due("no time", of("").count(13), 0);
    }

    /** "NOT_POSSIBLE if there is no present word; NOT_FOUND if all would be shown." */
    private static void ifRunEdges() {
        WordFlasher x = of("a | b |");
        due("no tick too many", x.ifRun(17), 0);
        due("just so many", x.ifRun(18), 2);
        due("a tick ahead of the end", x.ifRun(35), 2);
        due("just to the end", x.ifRun(36), MISSING);
        due("far behind it", x.ifRun(9999), MISSING);
        x.run(9999);
        due("behind the end", x.ifRun(9999), IMPOSSIBLE);
        due("no text", of("").ifRun(9999), IMPOSSIBLE);
        due("marks alone", of("|").ifRun(9999), IMPOSSIBLE);
        WordFlasher asked = slow("a. b. c");
        asked.set(5, 0);
        asked.back();
        due("asked back: a tick ahead", asked.ifRun(330 + 329), 1);
        due("asked back: no growth for the first", asked.ifRun(330 + 330), 2);
        due("asked back: growth for the second", asked.ifRun(330 + 330 + 147), 2);
        due("asked back: the end", asked.ifRun(330 + 330 + 148), MISSING);
    }

    /** "Returns the ticks until all is shown .. (speeds grow meanwhile, as they would)" */
    private static void leftEdges() {
        due("no text", of("").left(), IMPOSSIBLE);
        due("marks alone", of("| |").left(), IMPOSSIBLE);
        WordFlasher x = of("a");
        due("one word", x.left(), 18);
        x.run(17);
        due("one tick", x.left(), 1);
        x.run(1);
        due("none", x.left(), IMPOSSIBLE);
        WordFlasher grown = slow("a | b");
        due("with growth", grown.left(), 150 + 148);
        due("nothing has grown", grown.count(30), 100);
        due("no tick went by", grown.count(8), 0);
        grown.speed(0, 400);
        due("at the limit of growth", grown.left(), 150 + 38);
        WordFlasher most = new WordFlasher();
        most.set(0, 50);
        most.set(1, 10);
        most.set(3, 400);
        most.set(4, 300);
        most.set(6, 0);
        most.speed(0, 50);
        append(most, repeat("1. ", 100));
        due("the dearest text", most.left(), 1200000);
        due("the same, without growth", most.count(13), 1200000);
    }

    /** "words with equal times by ascending numbers; page marks do not count" */
    private static void longestEdges() {
        WordFlasher x = of("a b | c");
        int[] equal = {0, 1, 3, MISSING, MISSING};
        for (int index = 0; index < equal.length; index++) {
            due("equal times: longest(" + index + ")", x.longest(index), equal[index]);
        }
        for (int index : new int[] {-1, LEAST}) {
            due("longest(" + index + ")", x.longest(index), INVALID);
        }
        for (int index : new int[] {149, 150, MOST}) {
            due("longest(" + index + ")", x.longest(index), MISSING);
        }
        due("no text", of("").longest(0), MISSING);
        due("marks alone", of("|").longest(0), MISSING);
        due("no text, a wrong index", of("").longest(-1), INVALID);
        WordFlasher y = of("a, bbbbb a. ccccccccc a");
        int[] rank = {3, 2, 1, 0, 4};
        for (int index = 0; index < rank.length; index++) {
            due("longest(" + index + ")", y.longest(index), rank[index]);
        }
        WordFlasher full = of(repeat("a ", 150));
        due("the first of 150", full.longest(0), 0);
        due("the last of 150", full.longest(149), 149);
        due("none of 150", full.longest(150), MISSING);
    }

    /** "Returns the speed, 50 to 400 ..; NOT_FOUND if there is none." */
    private static void speedForEdges() {
        WordFlasher x = of("a. | | bbbbb");
        int[][] cases = {{80, 50}, {79, 51}, {78, 51}, {77, 52}, {40, 99}, {39, 102}, {10, 396}, {9, MISSING},
            {0, MISSING}, {100000, 50}};
        for (int[] c : cases) {
            due("speedFor(0, " + c[0] + ")", x.speedFor(0, c[0]), c[1]);
        }
        due("a mark alone takes no tick", x.speedFor(1, 0), 50);
        due("the last page", x.speedFor(2, 30), 100);
        for (int ticks : new int[] {-1, 100001, LEAST, MOST}) {
            due("speedFor(0, " + ticks + ")", x.speedFor(0, ticks), INVALID);
        }
        for (int page : new int[] {-1, 3, 150, LEAST, MOST}) {
            due("speedFor(" + page + ", 100)", x.speedFor(page, 100), INVALID);
        }
        due("no text", of("").speedFor(0, 100), INVALID);
        dueSpeeds("nothing changes", x, 100, 100, 100);
        duePresent("nothing changes", x, 0, 40);
        WordFlasher best = of("aaaaaaaaaa");
        best.set(0, 40);
        due("just 400", best.speedFor(0, 100), 400);
        due("above 400", best.speedFor(0, 99), MISSING);
    }
}
