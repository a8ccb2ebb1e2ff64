/**
 * A test of its own for each sentence of the document that names a boundary, which stands above the test:
 * showing, growing speeds, asking back, jumps and returns.
 */
public final class ShowingEdgesTest extends Checks {
    private ShowingEdgesTest() {
    }

    public static void main(String[] args) {
        showing();
        growing();
        goingBack();
        DUES.end();
    }

    // ---- showing

    private static void showing() {
        presentWord();
        timeThen();
        marksPassed();
        noNextWord();
        ticksGoBy();
        manyWordsAtOnce();
        mostTicks();
    }

    /** "There is a present word, if the text has a shown word and not all is shown .." */
    private static void presentWord() {
        for (String text : new String[] {"", " ", "|", "| | |"}) {
            duePresent("no shown word in '" + text + "'", of(text), MISSING, MISSING);
        }
        duePresent("one", of("a"), 0, 18);
        duePresent("one behind marks", of("| | a"), 2, 18);
        WordFlasher x = of("a");
        x.run(17);
        duePresent("not all is shown", x, 0, 1);
        x.run(1);
        duePresent("all is shown", x, MISSING, MISSING);
    }

    /** "When a word becomes the present one, its rest is its time then." */
    private static void timeThen() {
        WordFlasher x = of("a a. a a");
        x.set(6, 0);
        x.set(0, 12);
        duePresent("its time then, not now", x, 0, 18);
        x.run(18);
        duePresent("by ticks", x, 1, 80);
        x.set(0, 1);
        duePresent("the rest stays", x, 1, 80);
        x.jump(1);
        duePresent("by a jump", x, 2, 3);
        x.speed(0, 50);
        x.goBack();
        duePresent("by a return", x, 1, 14);
        x.set(5, 0);
        x.back();
        duePresent("by asking back", x, 0, 6);
        x.speed(0, 400);
        x.append(' ');
        duePresent("by altering", x, 0, 1);
    }

    /** "Page marks are passed at once: the next word becomes the present one." */
    private static void marksPassed() {
        WordFlasher x = of("| a | | | b");
        duePresent("at the begin", x, 1, 18);
        due("over three marks", x.run(18), 1);
        duePresent("over three marks", x, 5, 18);
        due("no tick more", x.count(8), 18);
        due("marks are no words shown to their end", x.count(9), 1);
    }

    /** "If there is no next word, all is shown: there is no present word." */
    private static void noNextWord() {
        for (String text : new String[] {"a", "a.", "a |", "a | |", "| a |"}) {
            WordFlasher x = of(text);
            due("left of " + text, x.left(), text.equals("a.") ? 40 : 18);
            due("run of " + text, x.run(9999), 1);
            duePresent("none of " + text, x, MISSING, MISSING);
            due("ticks of " + text, x.count(8), text.equals("a.") ? 40 : 18);
        }
    }

    /** "When ticks go by, the rest of the present word becomes less by them; whenever it is 0, the next word .." */
    private static void ticksGoBy() {
        WordFlasher x = of("a b c");
        due("one ahead", x.run(17), 0);
        duePresent("one ahead", x, 0, 1);
        due("just so many", x.run(1), 1);
        duePresent("just so many", x, 1, 18);
        due("one more", x.run(19), 1);
        duePresent("one more", x, 2, 17);
        due("to the end", x.run(17), 1);
        duePresent("to the end", x, MISSING, MISSING);
        due("ticks", x.count(8), 54);
    }

    /** ".. and what is left of the ticks goes on with it." */
    private static void manyWordsAtOnce() {
        due("two, just so many", of("a b c").run(36), 2);
        due("two, one less", of("a b c").run(35), 1);
        due("three, just so many", of("a b c").run(54), 3);
        due("three, far more", of("a b c").run(9999), 3);
        WordFlasher x = new WordFlasher();
        x.set(0, 1);
        x.set(1, 1);
        append(x, repeat("a ", 150));
        due("149 of 150", x.run(149), 149);
        duePresent("149 of 150", x, 149, 1);
        due("the last one", x.run(9999), 1);
        due("ticks", x.count(8), 150);
        due("words", x.count(9), 150);
    }

    /** "ticks: 1 to 9999" */
    private static void mostTicks() {
        for (int ticks : new int[] {0, -1, 10000, LEAST, MOST}) {
            due("run(" + ticks + ")", of("a").run(ticks), INVALID);
            due("ifRun(" + ticks + ")", of("a").ifRun(ticks), INVALID);
            due("run(" + ticks + ") of nothing", of("").run(ticks), INVALID);
            due("ifRun(" + ticks + ") of nothing", of("").ifRun(ticks), INVALID);
        }
        due("run(1)", of("a").run(1), 0);
        due("ifRun(1)", of("a").ifRun(1), 0);
        WordFlasher x = of("1" + letters(298) + ".");
        x.set(0, 50);
        x.speed(2, 50);
        x.back();
        due("a long word's rest", x.count(5), 154 * 50 * 286 / 50);
        due("run(9999)", x.run(9999), 0);
        due("ifRun(9999)", x.ifRun(9999), 0);
        due("what is left", x.left(), 44044 - 9999);
        for (int i = 0; i < 3; i++) {
            x.run(9999);
        }
        due("what is left then", x.left(), 44044 - 4 * 9999);
        due("to the end", x.run(9999), 1);
        due("ticks", x.count(8), 44044);
    }

    // ---- growing

    private static void growing() {
        atMost400();
        classesOfASentence();
        whenAMarkIsPassed();
        marksHaveNoClass();
        aheadOfTheNext();
        noAskingBackSince();
        begunByTicks();
        begunByAJump();
        begunByAReturn();
        begunByAltering();
        notBegunByAskingBack();
        settingsBeginNothing();
    }

    /** ".. grows by the step up, at most to 400 .." */
    private static void atMost400() {
        int[][] cases = {{380, 20, 400}, {381, 20, 400}, {379, 20, 399}, {399, 2, 400}, {398, 2, 400}, {397, 2, 399},
            {400, 20, 400}, {400, 0, 400}, {50, 0, 50}, {50, 1, 51}};
        for (int[] c : cases) {
            WordFlasher x = of("a. b");
            x.speed(0, c[0]);
            x.set(6, c[1]);
            x.run(40);
            dueSpeeds(c[0] + " and " + c[1], x, c[2], 100, 100);
        }
    }

    /** ".. the speed of each class of which the sentence has a shown word .." */
    private static void classesOfASentence() {
        WordFlasher x = of("a a a. bbbbb ccccccccc bbbbb. ccccccccc");
        x.run(18 + 18 + 40);
        dueSpeeds("three words of one class: once", x, 102, 100, 100);
        x.run(30 + 54 + 66);
        dueSpeeds("two classes", x, 102, 102, 102);
        x.run(53);
        dueSpeeds("the last one", x, 102, 102, 104);
    }

    /** "(.. of a sentence that ends with a page mark when this is passed)" */
    private static void whenAMarkIsPassed() {
        WordFlasher x = of("a bbbbb | c");
        x.run(47);
        dueSpeeds("a tick ahead", x, 100, 100, 100);
        x.run(1);
        dueSpeeds("passed", x, 102, 102, 100);
        WordFlasher last = of("a |");
        last.run(17);
        dueSpeeds("a tick ahead of the last", last, 100, 100, 100);
        last.run(1);
        dueSpeeds("the last is passed", last, 102, 100, 100);
        WordFlasher ended = of("a. |");
        ended.run(40);
        dueSpeeds("a sentence ended ahead of the mark", ended, 102, 100, 100);
    }

    /** A page mark alone is a sentence without shown words. */
    private static void marksHaveNoClass() {
        WordFlasher x = of("| bbbbb | | | ccccccccc | |");
        x.run(9999);
        dueSpeeds("marks are of no class", x, 100, 102, 102);
    }

    /** ".. ahead of the next word becoming the present one." */
    private static void aheadOfTheNext() {
        WordFlasher x = slow("a. b | c");
        x.run(330);
        duePresent("behind a stop", x, 1, 148);
        x.run(148);
        duePresent("behind a mark", x, 3, 145);
    }

    /** ".. and since a sentence was begun latest there was no asking back .." */
    private static void noAskingBackSince() {
        WordFlasher x = of("a b. c");
        x.set(5, 0);
        x.back();
        x.run(58);
        dueSpeeds("asked back at the begin", x, 100, 100, 100);
        WordFlasher y = of("a b. c");
        y.set(5, 0);
        y.run(57);
        y.back();
        y.run(58);
        dueSpeeds("asked back a tick ahead of the end", y, 100, 100, 100);
        WordFlasher z = of("a b. c");
        z.set(5, 0);
        z.run(58);
        dueSpeeds("not asked back", z, 102, 100, 100);
        z.back();
        z.undo();
        z.run(9999);
        dueSpeeds("asking back undone", z, 104, 100, 100);
    }

    /** "A sentence is begun when a word of it becomes the present one, as ticks go by, behind a word of another .." */
    private static void begunByTicks() {
        for (String text : new String[] {"a. b c.", "a | b c.", "a. | | b c |", "a | | b c"}) {
            WordFlasher x = of(text);
            x.set(5, 0);
            x.back();
            x.run(x.word(0, 8));
            dueSpeeds("asked back in the first of " + text, x, 100, 100, 100);
            x.run(18);
            dueSpeeds("within the second of " + text, x, 100, 100, 100);
            x.run(9999);
            dueSpeeds("begun anew by ticks in " + text, x, 102, 100, 100);
        }
        WordFlasher within = of("a b c. d");
        within.set(5, 0);
        within.back();
        within.run(18);
        within.run(18);
        within.run(40);
        dueSpeeds("a next word of the same begins nothing", within, 100, 100, 100);
    }

    /** ".. and by a jump .." */
    private static void begunByAJump() {
        WordFlasher x = of("a b. c");
        x.set(5, 0);
        x.back();
        x.jump(0);
        x.run(58);
        dueSpeeds("to the sentence that is shown", x, 102, 100, 100);
        x.back();
        x.jump(1);
        x.run(18);
        dueSpeeds("to another one", x, 104, 100, 100);
    }

    /** ".. a return .." */
    private static void begunByAReturn() {
        WordFlasher x = of("a b. c");
        x.set(5, 0);
        x.run(18);
        x.jump(1);
        x.back();
        x.goBack();
        duePresent("in the midst of a sentence", x, 1, 40);
        x.run(40);
        dueSpeeds("in the midst of a sentence", x, 102, 100, 100);
        WordFlasher end = of("a. b");
        end.set(5, 0);
        end.jump(1);
        end.run(18);
        end.back();
        end.run(18);
        dueSpeeds("asked back behind the end", end, 102, 100, 100);
        end.goBack();
        end.run(40);
        dueSpeeds("returned from behind the end", end, 104, 100, 100);
    }

    /** ".. and altering the text .." */
    private static void begunByAltering() {
        WordFlasher x = of("a b.");
        x.set(5, 0);
        x.back();
        x.append(' ');
        x.run(58);
        dueSpeeds("by append", x, 102, 100, 100);
        x.back();
        x.cut(1);
        x.run(58);
        dueSpeeds("by cut", x, 104, 100, 100);
    }

    /** "(but not by asking back, so the sentence to which an asking back goes makes no speeds grow)" */
    private static void notBegunByAskingBack() {
        WordFlasher x = of("bbbbb. a. c d");
        x.set(5, 0);
        x.run(66 + 40);
        dueSpeeds("two went well", x, 102, 102, 100);
        due("back", x.back(), 1);
        due("back again", x.back(), 0);
        x.run(65);
        dueSpeeds("the one asked for", x, 102, 102, 100);
        duePresent("the next one", x, 1, 39);
        x.run(39);
        dueSpeeds("the next one went well", x, 104, 102, 100);
    }

    /** The other changes begin no sentence and ask nothing back. */
    private static void settingsBeginNothing() {
        WordFlasher x = of("a b. c");
        x.set(5, 0);
        x.back();
        x.set(6, 5);
        x.speed(0, 200);
        x.note(0, 1);
        x.unnote(0);
        x.run(18 + 20);
        duePresent("the end of the sentence", x, 2, 9);
        dueSpeeds("no sentence is begun", x, 200, 100, 100);
        WordFlasher y = of("a b. c");
        y.run(18);
        y.set(6, 5);
        y.note(1, 1);
        y.run(40);
        dueSpeeds("nothing is asked back", y, 105, 100, 100);
    }

    // ---- asking back, jumps, returns

    private static void goingBack() {
        backWithinASentence();
        backToTheOneBefore();
        backOverEmptySentences();
        backWithNoneBefore();
        backBehindTheEnd();
        backWithoutShownWords();
        threeAtMost();
        eachAsOftenAsItDid();
        sinceAltered();
        onceForEachClass();
        notBelow50();
        aheadOfTheGoing();
        jumpEdges();
        fivePlaces();
        returnEdges();
    }

    /** "To ask back goes to the first shown word of the sentence of the present word .." */
    private static void backWithinASentence() {
        WordFlasher x = of("a b. c d e f");
        x.set(5, 0);
        x.run(18 + 40 + 18);
        duePresent("the second word", x, 3, 18);
        due("from the second word", x.back(), 2);
        x.run(18 + 18 + 18);
        duePresent("the last word", x, 5, 18);
        due("from the last word", x.back(), 2);
    }

    /** ".. if the present word is this one, to that of the sentence before that has shown words .." */
    private static void backToTheOneBefore() {
        WordFlasher x = of("a b. c. d");
        x.set(5, 0);
        x.jump(2);
        due("the last sentence", x.count(4), 3);
        x.run(3);
        due("one back, with ticks gone", x.back(), 2);
        due("one more", x.back(), 0);
        due("at the first", x.back(), 0);
    }

    /** ".. the sentence before that has shown words .." */
    private static void backOverEmptySentences() {
        WordFlasher x = of("a b | | | c");
        x.set(5, 0);
        x.jump(3);
        due("over marks alone", x.back(), 0);
        WordFlasher y = of("a. | b");
        y.set(5, 0);
        y.jump(2);
        due("over a mark behind a stop", y.back(), 0);
    }

    /** "(if there is none, it becomes the present one once more, with its whole time)" */
    private static void backWithNoneBefore() {
        WordFlasher x = of("| | a b");
        x.set(5, 0);
        x.run(17);
        duePresent("a tick is left", x, 2, 1);
        due("back", x.back(), 2);
        duePresent("the whole time", x, 2, 18);
        due("askings", x.count(10), 1);
        WordFlasher one = of("a");
        one.run(5);
        due("the only word", one.back(), 0);
        duePresent("the only word, at 90", one, 0, 20);
    }

    /** "If all is shown, it goes to the last sentence that has shown words." */
    private static void backBehindTheEnd() {
        String[] texts = {"a", "a b c", "a. b c", "a. b c |", "a. b c | | |", "a | b c. |"};
        int[] words = {0, 0, 1, 1, 1, 2};
        for (int i = 0; i < texts.length; i++) {
            WordFlasher x = of(texts[i]);
            x.run(9999);
            due("all of " + texts[i], x.count(4), MISSING);
            due("back behind " + texts[i], x.back(), words[i]);
        }
    }

    /** "NOT_POSSIBLE if there is no shown word." */
    private static void backWithoutShownWords() {
        for (String text : new String[] {"", " ", "|", "| |"}) {
            WordFlasher x = of(text);
            due("back in '" + text + "'", x.back(), IMPOSSIBLE);
            dueSpeeds("back in '" + text + "'", x, 100, 100, 100);
            due("askings in '" + text + "'", x.count(10), 0);
        }
    }

    /** "Of the words that became the present ones latest, 3 at most .. (the present one included ..)" */
    private static void threeAtMost() {
        String text = "ccccccccc bbbbb a a a";
        int[] ticks = {1, 54, 54 + 30, 54 + 30 + 18, 54 + 30 + 18 + 18, 54 + 30 + 18 + 18 + 18};
        int[][] speeds = {{100, 100, 90}, {100, 90, 90}, {90, 90, 90}, {90, 90, 100}, {90, 100, 100}, {90, 100, 100}};
        for (int i = 0; i < ticks.length; i++) {
            WordFlasher x = of(text);
            x.set(6, 0);
            x.run(ticks[i]);
            x.back();
            dueSpeeds("behind " + ticks[i] + " ticks", x, speeds[i][0], speeds[i][1], speeds[i][2]);
        }
    }

    /** ".. in whatever way they became it, each one as often as it did .." */
    private static void eachAsOftenAsItDid() {
        WordFlasher x = of("ccccccccc. bbbbb. a. d");
        x.set(6, 0);
        x.jump(1);
        x.jump(2);
        x.back();
        dueSpeeds("by altering and two jumps", x, 90, 90, 90);
        x.back();
        dueSpeeds("by asking back, the first is out", x, 80, 80, 90);
        WordFlasher same = of("ccccccccc. a");
        same.jump(1);
        same.jump(1);
        same.jump(1);
        same.back();
        dueSpeeds("one word three times", same, 90, 100, 100);
        WordFlasher twice = of("ccccccccc. a");
        twice.jump(1);
        twice.jump(1);
        twice.back();
        dueSpeeds("one word twice", twice, 90, 100, 90);
        WordFlasher back = of("ccccccccc. bbbbb. a");
        back.jump(1);
        back.goBack();
        back.goBack();
        back.back();
        dueSpeeds("by a return", back, 100, 90, 90);
    }

    /** ".. since the text was altered .." */
    private static void sinceAltered() {
        WordFlasher x = of("a bbbbb ccccccccc d");
        x.run(18 + 30 + 1);
        x.append(' ');
        x.back();
        dueSpeeds("append begins anew, with the first word", x, 90, 100, 100);
        WordFlasher y = of("a bbbbb ccccccccc d");
        y.run(18 + 30 + 1);
        y.cut(1);
        y.run(20);
        y.back();
        dueSpeeds("cut begins anew", y, 90, 90, 100);
        WordFlasher mark = of("| bbbbb");
        mark.back();
        dueSpeeds("the first word alone, be it behind a mark", mark, 100, 90, 100);
        WordFlasher z = of("a bbbbb ccccccccc d");
        z.run(18 + 30 + 1);
        z.append(' ');
        z.undo();
        z.back();
        dueSpeeds("the altering undone", z, 90, 90, 90);
    }

    /** ".. the speed of each class among them becomes less by the step down (once) .." */
    private static void onceForEachClass() {
        WordFlasher x = of("a b c d");
        x.run(18 + 18 + 18);
        x.back();
        dueSpeeds("three words of a class", x, 90, 100, 100);
        WordFlasher y = of("a bbbbb c");
        y.run(18 + 30);
        y.back();
        dueSpeeds("two words of a class, one of another", y, 90, 90, 100);
    }

    /** ".. but not below 50." */
    private static void notBelow50() {
        int[][] cases = {{50, 10, 50}, {51, 10, 50}, {59, 10, 50}, {60, 10, 50}, {61, 10, 51}, {50, 0, 50}, {50, 1, 50},
            {51, 1, 50}, {52, 1, 51}, {99, 50, 50}, {100, 50, 50}, {101, 50, 51}, {400, 50, 350}, {400, 0, 400}};
        for (int[] c : cases) {
            WordFlasher x = of("a");
            x.speed(0, c[0]);
            x.set(5, c[1]);
            x.back();
            dueSpeeds(c[0] + " and " + c[1], x, c[2], 100, 100);
        }
    }

    /** "This happens ahead of the going." */
    private static void aheadOfTheGoing() {
        WordFlasher x = slow("a b");
        x.back();
        duePresent("with the new speed", x, 0, 167);
        WordFlasher y = of("bbbbb a");
        y.run(30 + 17);
        y.back();
        dueSpeeds("two words, the present one included", y, 90, 90, 100);
        WordFlasher z = of("bbbbb a a a");
        z.run(30 + 18 + 18);
        duePresent("three words of a class", z, 3, 18);
        z.back();
        dueSpeeds("the word gone to is not among three", z, 90, 100, 100);
        duePresent("the word gone to", z, 0, 30);
    }

    /** "INVALID_ARGUMENT; NOT_POSSIBLE if it has no shown word, or there is no present word to put on the stack." */
    private static void jumpEdges() {
        WordFlasher x = of("| a. b | |");
        due("sentences", x.count(2), 4);
        int[] answers = {IMPOSSIBLE, 1, 2, IMPOSSIBLE};
        for (int sentence = 0; sentence < answers.length; sentence++) {
            due("jump(" + sentence + ")", x.jump(sentence), answers[sentence]);
        }
        for (int sentence : new int[] {-1, 4, 150, 999, LEAST, MOST}) {
            due("jump(" + sentence + ")", x.jump(sentence), INVALID);
        }
        due("places", x.count(6), 2);
        x.run(9999);
        due("no present word", x.jump(1), IMPOSSIBLE);
        due("no present word, no sentence", x.jump(4), INVALID);
        due("no word at all", of("").jump(0), INVALID);
        due("marks alone", of("| |").jump(1), IMPOSSIBLE);
        due("to the present word", of("a").jump(0), 0);
    }

    /** "a stack of at most 5 places (the lowest one is dropped, if there would be more)" */
    private static void fivePlaces() {
        for (int jumps = 0; jumps <= 9; jumps++) {
            WordFlasher x = of("a. b. c. d. e. f. g. h. i. j");
            for (int sentence = 1; sentence <= jumps; sentence++) {
                x.jump(sentence);
            }
            String name = jumps + " jumps, ";
            int places = Math.min(jumps, 5);
            for (int taken = 0; taken < places; taken++) {
                due(name + "places", x.count(6), places - taken);
                due(name + "goBack", x.goBack(), jumps - 1 - taken);
            }
            due(name + "no place", x.count(6), 0);
            due(name + "goBack of none", x.goBack(), IMPOSSIBLE);
        }
        WordFlasher y = of("a. b. c. d. e. f. g.");
        for (int sentence = 1; sentence <= 5; sentence++) {
            y.jump(sentence);
        }
        y.goBack();
        y.jump(6);
        due("full once more", y.count(6), 5);
        for (int place = 4; place >= 0; place--) {
            due("none was dropped", y.goBack(), place);
        }
    }

    /** "A return goes to the place on the top of the stack, which is removed." */
    private static void returnEdges() {
        due("no text", of("").goBack(), IMPOSSIBLE);
        due("no place", of("a").goBack(), IMPOSSIBLE);
        WordFlasher x = of("a b. c");
        x.set(6, 0);
        x.run(19);
        x.jump(1);
        x.run(9999);
        due("from behind the end", x.goBack(), 1);
        duePresent("its whole time", x, 1, 40);
        due("the place is removed", x.goBack(), IMPOSSIBLE);
        x.jump(0);
        x.append('d');
        due("the stack is emptied by append", x.goBack(), IMPOSSIBLE);
        x.jump(0);
        x.cut(1);
        due("the stack is emptied by cut", x.goBack(), IMPOSSIBLE);
        due("no places", x.count(6), 0);
    }
}
