/**
 * A test of its own for each sentence of the document that names a boundary, which stands above the test:
 * words and times, altering the text, notes.
 */
public final class TextEdgesTest extends Checks {
    private TextEdgesTest() {
    }

    public static void main(String[] args) {
        words();
        times();
        altering();
        notes();
        DUES.end();
    }

    // ---- words

    private static void words() {
        textLength();
        characterCodes();
        longestSequences();
        markAlone();
        lettersOfAWord();
        closingCharacters();
        closedBehindTrailing();
        nothingToCloseBy();
        lastWordEnds();
        markBehindMark();
        classes();
    }

    /** "There is a text of at most 300 characters .., initially empty." */
    private static void textLength() {
        WordFlasher x = new WordFlasher();
        due("empty at first", x.count(0), 0);
        append(x, letters(298));
        due("the 299th", x.append('a'), 1);
        due("the 300th", x.append('a'), 1);
        due("the 301st", x.append('a'), LIMIT);
        due("a blank as the 301st", x.append(' '), LIMIT);
        due("300 at most", x.count(0), 300);
        due("one off", x.cut(1), 299);
        due("the 300th again", x.append('b'), 1);
        due("the 301st again", x.append('b'), LIMIT);
        due("undone", x.undo(), 3);
        due("the 300th behind undo", x.append('c'), 1);
        due("all off", x.cut(300), 0);
        due("the first again", x.append('a'), 1);
    }

    /** ".. with codes from 32 to 126 .." */
    private static void characterCodes() {
        for (int code = -2; code <= 260; code++) {
            boolean fine = code >= 32 && code <= 126;
            due("append(" + code + ")", new WordFlasher().append(code), fine ? code == 32 ? 0 : 1 : INVALID);
            due("order(" + code + ")", new WordFlasher().order(code), fine ? 1 : INVALID);
        }
        for (int code : new int[] {LEAST, LEAST + 97, -97, 256 + 97, 65536 + 97, MOST}) {
            due("append(" + code + ")", new WordFlasher().append(code), INVALID);
            due("order(" + code + ")", new WordFlasher().order(code), INVALID);
        }
    }

    /** "Its words are the longest sequences of characters other than blanks, numbered from 0." */
    private static void longestSequences() {
        due("no characters", of("").count(1), 0);
        due("a blank", of(" ").count(1), 0);
        due("300 blanks", of(repeat(" ", 300)).count(1), 0);
        dueRow("no blank", ofWords(of("ab"), 0), 0);
        dueRow("blanks at both ends", ofWords(of("  ab  "), 0), 2);
        dueRow("blanks within", ofWords(of("a   b"), 0), 0, 4);
        dueRow("characters of each", ofWords(of(" a  bc def"), 1), 1, 2, 3);
        WordFlasher one = of(letters(300));
        due("one word of 300", one.count(1), 1);
        due("its characters", one.word(0, 1), 300);
        due("its length", one.word(0, 2), 300);
        due("its spot", one.word(0, 10), 99);
        WordFlasher many = of(repeat(" a", 150));
        due("150 words", many.count(1), 150);
        due("the last one of them", many.word(149, 0), 299);
        due("none behind it", many.word(150, 0), INVALID);
        WordFlasher x = of("a b");
        x.cut(2);
        dueRow("cut to one", ofWords(x, 1), 1);
        x.append('c');
        dueRow("the one goes on", ofWords(x, 1), 2);
    }

    /** "A word that is "|" alone is a page mark; it is not shown." */
    private static void markAlone() {
        dueRow("marks", ofWords(of("| a |"), 4), 3, 0, 3);
        dueRow("no marks", ofWords(of("|| |a a| |) '|' (| |' |. |, x"), 4), 0, 0, 0, 0, 0, 0, 0, 2, 1, 0);
        due("shown words of a mark alone", of("|").sentence(0, 3), 0);
        due("shown words of two strokes", of("||").sentence(0, 3), 1);
        duePresent("two strokes are shown", of("||"), 0, 18);
        WordFlasher x = of("a |");
        x.append('|');
        due("a mark that goes on", x.word(1, 4), 0);
        x.cut(1);
        due("a mark once more", x.word(1, 4), 3);
    }

    /** "The letters of a word are its characters a to z, A to Z and 0 to 9; its length is their number." */
    private static void lettersOfAWord() {
        for (char c = 33; c <= 126; c++) {
            boolean letter = "abcdefghijklmnopqrstuvwxyzABCDEFGHIJKLMNOPQRSTUVWXYZ0123456789".indexOf(c) >= 0;
            due("length of " + c, of("" + c).word(0, 2), letter ? 1 : 0);
            due("spot of -" + c, of("-" + c).word(0, 10), letter ? 1 : -1);
        }
    }

    /** ".. it ends a sentence if this is one of . ! and ?, and a clause if it is one of , ; and :." */
    private static void closingCharacters() {
        for (char c = 33; c <= 126; c++) {
            int due = ".!?".indexOf(c) >= 0 ? 2 : ",;:".indexOf(c) >= 0 ? 1 : 0;
            due("a" + c + " closes", of("a" + c + " a").word(0, 4), due);
            due("a" + c + " and the sentences", of("a" + c + " a").count(2), due == 2 ? 2 : 1);
            due(c + "a does not", of(c + "a a").word(0, 4), 0);
        }
    }

    /** "A word is closed by its last character that is none of ) ] " and ' .." */
    private static void closedBehindTrailing() {
        for (char c = 33; c <= 126; c++) {
            boolean passed = ")]\"'".indexOf(c) >= 0;
            int due = passed || c == '.' || c == '!' || c == '?' ? 2 : ",;:".indexOf(c) >= 0 ? 1 : 0;
            due("a." + c, of("a." + c).word(0, 4), due);
            due("a." + c + ")'", of("a." + c + ")'").word(0, 4), due);
        }
        due("the stop far ahead", of("." + repeat(")", 299)).word(0, 4), 2);
        due("the later one counts", of("a.,)").word(0, 4), 1);
    }

    /** ".. (if there is one) .." */
    private static void nothingToCloseBy() {
        dueRow("none to close by", ofWords(of(") ] \" ' )]\"' a"), 4), 0, 0, 0, 0, 0, 0);
        due("none to close by: one sentence", of(") ] \" ' )]\"' a").count(2), 1);
        dueRow("none to close by: times", ofWords(of(") ' a"), 8), 18, 18, 18);
    }

    /** "The last word ends a sentence and a page, too, whatever it is." */
    private static void lastWordEnds() {
        String[] texts = {"a", "a,", "a.", "|", "a b", "a |", "a, b,"};
        for (String text : texts) {
            due("sentences of " + text, of(text).count(2), 1);
            due("pages of " + text, of(text).count(3), 1);
        }
        due("sentences of nothing", of("").count(2), 0);
        due("pages of nothing", of("").count(3), 0);
        due("sentences of blanks", of("  ").count(2), 0);
        due("pages of blanks", of("  ").count(3), 0);
        WordFlasher x = of("a. | b");
        due("three sentences", x.count(2), 3);
        due("two pages", x.count(3), 2);
        x.cut(2);
        due("two sentences", x.count(2), 2);
        due("one page", x.count(3), 1);
    }

    /** "(A page mark behind another one is a sentence and a page alone.)" */
    private static void markBehindMark() {
        WordFlasher x = of("a | | | b");
        dueRow("sentences", ofWords(x, 5), 0, 0, 1, 2, 3);
        dueRow("pages", ofWords(x, 6), 0, 0, 1, 2, 3);
        dueRow("shown words of the sentences", ofSentences(x, 3), 1, 0, 0, 1);
        dueRow("sentences of the pages", ofPages(x, 3), 1, 1, 1, 1);
        dueRow("first words of the pages", ofPages(x, 0), 0, 2, 3, 4);
        dueRow("last words of the pages", ofPages(x, 1), 1, 2, 3, 4);
        WordFlasher marks = of(repeat("| ", 150));
        due("150 sentences", marks.count(2), 150);
        due("150 pages", marks.count(3), 150);
        due("the last of them", marks.page(149, 0), 149);
        due("none behind it", marks.page(150, 0), INVALID);
        due("no sentence behind it", marks.sentence(150, 0), INVALID);
    }

    /** "The class of a word is 0 with a length of at most 4, 1 with 5 to 8, and 2 with 9 or more." */
    private static void classes() {
        int[] lengths = {0, 1, 4, 5, 8, 9, 10, 298};
        int[] classes = {0, 0, 0, 1, 1, 2, 2, 2};
        for (int i = 0; i < lengths.length; i++) {
            due("class of " + lengths[i], of("-" + letters(lengths[i])).word(0, 3), classes[i]);
        }
        due("signs do not count", of("a-a-a-a--").word(0, 3), 0);
        due("class of a mark", of("|").word(0, 3), 0);
    }

    // ---- times

    private static void times() {
        speedRange();
        settingRanges();
        aboveTen();
        leastMeasure();
        roundedUp();
        percentByClosing();
        figures();
        figuresRoundedDown();
        dearestWord();
        timeOfMarks();
        spots();
    }

    /** "Each class has a speed (50 to 400, initially 100)." */
    private static void speedRange() {
        for (int kind = 0; kind <= 2; kind++) {
            WordFlasher x = new WordFlasher();
            due("speed at first", x.count(30 + kind), 100);
            int previous = 100;
            for (int value : new int[] {49, 50, 51, 399, 400, 401, 0, -50, LEAST, MOST}) {
                boolean fine = value >= 50 && value <= 400;
                due("speed(" + kind + ", " + value + ")", x.speed(kind, value), fine ? previous : INVALID);
                previous = fine ? value : previous;
                due("speed then", x.count(30 + kind), previous);
            }
        }
        for (int kind : new int[] {-1, 3, LEAST, MOST}) {
            due("speed of class " + kind, new WordFlasher().speed(kind, 100), INVALID);
        }
    }

    /** "The settings are (in parentheses: range; first value): .." */
    private static void settingRanges() {
        int[][] ranges = {{1, 50, 6}, {1, 10, 3}, {100, 400, 150}, {100, 400, 220}, {100, 300, 130}, {0, 50, 10},
            {0, 20, 2}};
        for (int what = 0; what < ranges.length; what++) {
            int least = ranges[what][0];
            int most = ranges[what][1];
            WordFlasher x = new WordFlasher();
            due("setting at first", x.count(20 + what), ranges[what][2]);
            int previous = ranges[what][2];
            for (int value : new int[] {least - 1, least, least + 1, most - 1, most, most + 1, -1, LEAST, MOST}) {
                boolean fine = value >= least && value <= most;
                due("set(" + what + ", " + value + ")", x.set(what, value), fine ? previous : INVALID);
                previous = fine ? value : previous;
                due("setting then", x.count(20 + what), previous);
            }
        }
        for (int what : new int[] {-1, 7, 20, LEAST, MOST}) {
            for (int value : new int[] {0, 1, 5, 100}) {
                due("set(" + what + ", " + value + ")", new WordFlasher().set(what, value), INVALID);
            }
        }
    }

    /** ".. its length, but half of what is above 10 (rounded up) does not count .." */
    private static void aboveTen() {
        int[] lengths = {3, 9, 10, 11, 12, 13, 14, 15, 20, 21, 299, 300};
        int[] measures = {3, 9, 10, 10, 11, 11, 12, 12, 15, 15, 154, 155};
        for (int i = 0; i < lengths.length; i++) {
            due("measure of " + lengths[i], of(letters(lengths[i])).word(0, 7), measures[i]);
        }
    }

    /** ".. and at least the least measure." */
    private static void leastMeasure() {
        WordFlasher x = of("- a aa aaa aaaa aaaaaaaaa aaaaaaaaaa aaaaaaaaaaaa");
        dueRow("at least 3", ofWords(x, 7), 3, 3, 3, 3, 4, 9, 10, 11);
        x.set(1, 1);
        dueRow("at least 1", ofWords(x, 7), 1, 1, 2, 3, 4, 9, 10, 11);
        x.set(1, 2);
        dueRow("at least 2", ofWords(x, 7), 2, 2, 2, 3, 4, 9, 10, 11);
        x.set(1, 10);
        dueRow("at least 10", ofWords(x, 7), 10, 10, 10, 10, 10, 10, 10, 11);
    }

    /** "Its time is measure * unit * percent / speed of its class, rounded up .." */
    private static void roundedUp() {
        WordFlasher x = of("a");
        // 1800 / 257 is 7 with a rest of 1, 1800 / 60 and 1800 / 360 have no rest
        int[] speeds = {50, 60, 61, 62, 63, 257, 359, 360, 361, 400};
        int[] times = {36, 30, 30, 30, 29, 8, 6, 5, 5, 5};
        for (int i = 0; i < speeds.length; i++) {
            x.speed(0, speeds[i]);
            due("time at " + speeds[i], x.word(0, 8), times[i]);
        }
        x.set(0, 1);
        x.set(1, 1);
        due("the least time", x.word(0, 8), 1);
        duePresent("the rest stays", x, 0, 18);
    }

    /** ".. the percent is 100, but that of a clause or of a sentence, if it ends one by its closing character .." */
    private static void percentByClosing() {
        dueRow("by the closing character", ofWords(of("a a, a. | a | a"), 8), 18, 27, 40, 0, 18, 0, 18);
        WordFlasher x = of("a, a.");
        x.set(2, 100);
        x.set(3, 400);
        dueRow("clauses at 100, sentences at 400", ofWords(x, 8), 18, 72);
        x.set(2, 400);
        x.set(3, 100);
        dueRow("clauses at 400, sentences at 100", ofWords(x, 8), 72, 18);
    }

    /** ".. if at least one of its letters is a figure (0 to 9) .." */
    private static void figures() {
        for (char c = 33; c <= 126; c++) {
            if (c != '|' && ".!?,;:".indexOf(c) < 0) {
                due("time of " + c, of("" + c).word(0, 8), c >= '0' && c <= '9' ? 24 : 18);
            }
        }
        dueRow("figures anywhere", ofWords(of("1aa a1a aa1 (0) aaa"), 8), 24, 24, 24, 24, 18);
        WordFlasher x = of("1 a1.");
        x.set(4, 100);
        dueRow("figures at 100", ofWords(x, 8), 18, 40);
        x.set(4, 300);
        dueRow("figures at 300", ofWords(x, 8), 54, 119);
    }

    /** ".. percent * (percent of figures) / 100", divisions being rounded down. */
    private static void figuresRoundedDown() {
        WordFlasher x = of("1, 1.");
        x.set(0, 50);
        x.set(1, 10);
        x.set(4, 101);
        // 150 * 101 / 100 = 151 and 220 * 101 / 100 = 222
        dueRow("a rest of 50, a rest of 20", ofWords(x, 8), 755, 1110);
        x.set(2, 199);
        // 199 * 101 / 100 = 200, with a rest of 99
        due("a rest of 99", x.word(0, 8), 1000);
        x.set(2, 200);
        due("a rest of 0", x.word(0, 8), 1010);
    }

    /** The largest numbers that the ranges leave. */
    private static void dearestWord() {
        WordFlasher x = of("1" + letters(298) + ".");
        x.set(0, 50);
        x.set(3, 400);
        x.set(4, 300);
        x.speed(2, 50);
        due("measure of 299", x.word(0, 7), 154);
        due("the dearest time", x.word(0, 8), 154 * 50 * 1200 / 50);
        due("of a page", x.page(0, 2), 184800);
        due("of all", x.count(13), 184800);
        due("no speed is fast enough", x.speedFor(0, 23099), MISSING);
        due("the fastest is", x.speedFor(0, 23100), 400);
        due("with so many ticks as can be", x.speedFor(0, 100000), 93);
    }

    /** "The time of a page mark is 0." */
    private static void timeOfMarks() {
        WordFlasher x = of("| |");
        x.set(0, 50);
        x.set(1, 10);
        x.speed(0, 50);
        dueRow("times of marks", ofWords(x, 8), 0, 0);
        due("all of it", x.count(13), 0);
        due("a page", x.page(0, 2), 0);
        due("a sentence", x.sentence(1, 2), 0);
    }

    /** ".. of the letters the one with the number (length - 1) / 3, counted from 0; -1 without letters" */
    private static void spots() {
        int[] spots = {-1, 0, 0, 0, 1, 1, 1, 2, 2, 2, 3};
        for (int length = 0; length < spots.length; length++) {
            int spot = spots[length];
            due("spot of " + length, of(letters(length) + "-").word(0, 10), spot);
            due("spot behind signs of " + length, of("((" + letters(length)).word(0, 10), spot < 0 ? -1 : spot + 2);
            due("spot among signs of " + length, of(repeat("-a", length) + "-").word(0, 10),
                spot < 0 ? -1 : 2 * spot + 1);
        }
        due("spot of a mark", of("|").word(0, 10), -1);
        dueRow("spots are counted in each word", ofWords(of("  abcd -abcdefg - a"), 10), 1, 3, -1, 0);
    }

    // ---- altering

    private static void altering() {
        firstShownWord();
        alsoIfWordsStay();
        notesStay();
        notesWithoutWords();
        notesOnMarks();
        cutEdges();
    }

    /** "When the text is altered .. the first shown word becomes the present one (if there is none, ..)" */
    private static void firstShownWord() {
        WordFlasher x = of("| a. b");
        x.set(6, 0);
        x.run(45);
        duePresent("the last word", x, 2, 13);
        x.append(' ');
        duePresent("append", x, 1, 40);
        x.run(9999);
        x.cut(1);
        duePresent("cut behind the end", x, 1, 40);
        x.cut(4);
        due("the mark alone is left", x.count(1), 1);
        duePresent("no shown word", x, MISSING, MISSING);
        due("run then", x.run(1), IMPOSSIBLE);
        append(x, "b");
        duePresent("a shown word again", x, 1, 18);
        x.cut(3);
        due("no text", x.count(0), 0);
        duePresent("no text", x, MISSING, MISSING);
    }

    /** "(by each append and cut, also if its words stay)" */
    private static void alsoIfWordsStay() {
        WordFlasher x = of("a. b");
        x.jump(1);
        x.run(5);
        x.append(' ');
        duePresent("a blank behind", x, 0, 40);
        due("the stack", x.count(6), 0);
        x.jump(1);
        x.cut(1);
        duePresent("the blank cut off", x, 0, 40);
        due("the stack then", x.count(6), 0);
        due("ticks stay", x.count(8), 5);
    }

    /** "speeds stay, and notes stay on the numbers of their words" */
    private static void notesStay() {
        WordFlasher x = of("a b c");
        x.speed(1, 77);
        x.note(1, 5);
        x.cut(2);
        x.append('b');
        dueSpeeds("speeds stay", x, 100, 77, 100);
        dueRow("on its number", ofWords(x, 9), 0, 5);
        append(x, "ccccc. d");
        dueRow("on its number, the word being another", ofWords(x, 9), 0, 5, 0);
        due("notes", x.count(7), 1);
    }

    /** "notes on words that there are not any more .. are removed" */
    private static void notesWithoutWords() {
        WordFlasher x = of("a b c");
        for (int word = 0; word < 3; word++) {
            x.note(word, 10 + word);
        }
        x.cut(1);
        due("the last word is gone", x.count(7), 2);
        due("none at 2", x.noted(2, 0), MISSING);
        x.append('c');
        dueRow("no note on the new one", ofWords(x, 9), 10, 11, 0);
        x.cut(5);
        due("all are gone", x.count(7), 0);
        append(x, "a b c");
        dueRow("no notes", ofWords(x, 9), 0, 0, 0);
        WordFlasher y = of("a b");
        y.note(1, 9);
        y.cut(1);
        y.undo();
        due("undone", y.word(1, 9), 9);
    }

    /** ".. or that are page marks then, are removed" */
    private static void notesOnMarks() {
        WordFlasher x = of("a ||");
        x.note(1, 9);
        x.cut(1);
        due("a mark then", x.word(1, 4), 3);
        due("by cut", x.count(7), 0);
        x.append('|');
        due("no mark any more", x.word(1, 9), 0);
        WordFlasher y = of("|a");
        y.note(0, 9);
        y.cut(1);
        due("the first word", y.count(7), 0);
    }

    /** "characters: 1 to 300 .. NOT_POSSIBLE if it has not so many." */
    private static void cutEdges() {
        for (int characters : new int[] {0, -1, 301, LEAST, MOST}) {
            due("cut(" + characters + ")", of("abc").cut(characters), INVALID);
            due("cut(" + characters + ") of nothing", of("").cut(characters), INVALID);
        }
        int[] answers = {2, 1, 0, IMPOSSIBLE};
        for (int characters = 1; characters <= 4; characters++) {
            due("cut(" + characters + ") of three", of("abc").cut(characters), answers[characters - 1]);
        }
        due("cut(1) of nothing", of("").cut(1), IMPOSSIBLE);
        due("cut(300) of 299", of(letters(299)).cut(300), IMPOSSIBLE);
        due("cut(300) of 300", of(letters(300)).cut(300), 0);
        due("cut(299) of 300", of(letters(300)).cut(299), 1);
    }

    // ---- notes

    private static void notes() {
        noteRange();
        tenNotes();
        noteOnMarks();
        unnoteEdges();
        notedEdges();
    }

    /** "A word can have one note, a number from 1 to 99 .." */
    private static void noteRange() {
        for (int note : new int[] {0, -1, 100, LEAST, MOST}) {
            due("note(0, " + note + ")", of("a").note(0, note), INVALID);
        }
        WordFlasher x = of("a");
        for (int note : new int[] {1, 2, 98, 99}) {
            due("note(0, " + note + ")", x.note(0, note), 1);
            due("the note", x.word(0, 9), note);
        }
        for (int word : new int[] {-1, 1, 150, LEAST, MOST}) {
            due("note(" + word + ", 1)", x.note(word, 1), INVALID);
        }
        due("note of nothing", of("").note(0, 1), INVALID);
        due("note on the last of 150", of(repeat("a ", 150)).note(149, 1), 1);
        due("note on none of 150", of(repeat("a ", 150)).note(150, 1), INVALID);
    }

    /** ".. at most 10 words have notes." */
    private static void tenNotes() {
        WordFlasher x = of("a b c d e f g h i j k |");
        for (int word = 0; word < 9; word++) {
            due("note on " + word, x.note(word, 1), word + 1);
        }
        due("the tenth", x.note(9, 1), 10);
        due("one too many", x.note(10, 1), LIMIT);
        due("in place of one", x.note(0, 7), 10);
        due("the same once more", x.note(0, 7), 10);
        due("a mark", x.note(11, 1), IMPOSSIBLE);
        due("no word", x.note(12, 1), INVALID);
        due("no note", x.note(10, 0), INVALID);
        due("one away", x.unnote(4), 1);
        due("the tenth again", x.note(10, 2), 10);
        due("one too many again", x.note(4, 2), LIMIT);
        x.cut(3);
        due("nine by cut", x.count(7), 9);
        due("the tenth a third time", x.note(4, 3), 10);
    }

    /** "NOT_POSSIBLE if it is a page mark" */
    private static void noteOnMarks() {
        WordFlasher x = of("| a |");
        due("the first", x.note(0, 1), IMPOSSIBLE);
        due("the last", x.note(2, 99), IMPOSSIBLE);
        due("with a wrong note", x.note(2, 100), INVALID);
        due("the word between", x.note(1, 1), 1);
    }

    /** "INVALID_ARGUMENT; NOT_FOUND if it has none." */
    private static void unnoteEdges() {
        WordFlasher x = of("a b |");
        x.note(0, 1);
        x.note(1, 99);
        due("the first", x.unnote(0), 1);
        due("the first again", x.unnote(0), MISSING);
        due("the last", x.unnote(1), 99);
        due("a mark", x.unnote(2), MISSING);
        for (int word : new int[] {-1, 3, 150, LEAST, MOST}) {
            due("unnote(" + word + ")", x.unnote(word), INVALID);
        }
        due("unnote of nothing", of("").unnote(0), INVALID);
    }

    /** "from: 0 or more: a number of a word, which may not be there; way: 0 .. 1 .." */
    private static void notedEdges() {
        WordFlasher x = of("a b c");
        x.note(0, 1);
        x.note(2, 1);
        int[] behind = {0, 2, 2, MISSING, MISSING};
        int[] before = {MISSING, 0, 0, 2, 2};
        for (int from = 0; from < behind.length; from++) {
            due("noted(" + from + ", 0)", x.noted(from, 0), behind[from]);
            due("noted(" + from + ", 1)", x.noted(from, 1), before[from]);
        }
        for (int from : new int[] {149, 150, 151, 65536, MOST}) {
            due("noted(" + from + ", 0)", x.noted(from, 0), MISSING);
            due("noted(" + from + ", 1)", x.noted(from, 1), 2);
        }
        for (int from : new int[] {-1, LEAST}) {
            due("noted(" + from + ", 0)", x.noted(from, 0), INVALID);
            due("noted(" + from + ", 1)", x.noted(from, 1), INVALID);
        }
        for (int way : new int[] {-1, 2, LEAST, MOST}) {
            due("noted(0, " + way + ")", x.noted(0, way), INVALID);
        }
        due("noted of nothing", of("").noted(0, 0), MISSING);
        due("noted before, of nothing", of("").noted(MOST, 1), MISSING);
    }
}
