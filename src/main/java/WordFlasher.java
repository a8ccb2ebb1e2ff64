/** Words of a text that are shown one by one at one spot. */
public final class WordFlasher {
    public static final int INVALID_ARGUMENT = -1;
    public static final int NOT_POSSIBLE = -2;
    public static final int LIMIT_REACHED = -3;
    public static final int NOT_FOUND = -4;

    /** What a question for an error answers if there is none. */
    private static final int FINE = 0;
    /** No word, no position. */
    private static final int NONE = -1;

    private static final int FIRST_CHARACTER = 32;
    private static final int LAST_CHARACTER = 126;
    private static final int MOST_CHARACTERS = 300;
    /** Words are parted by blanks, so a text has at most half as many as characters. */
    private static final int MOST_WORDS = 150;
    private static final int MOST_TICKS = 9999;
    private static final int MOST_PAGE_TICKS = 100000;
    /** More than all words of a text can take: each of its characters takes at most 12000 ticks. */
    private static final int UNTIL_ALL_IS_SHOWN = 1000000000;
    private static final int MOST_STATES = 4;
    private static final int MOST_PLACES = 5;
    private static final int MOST_LATEST = 3;
    private static final int MOST_NOTED = 10;
    private static final int HIGHEST_NOTE = 99;
    private static final int MOST_ORDER_CHARACTERS = 60;
    private static final int MOST_DIGITS = 3;

    private static final int CLASSES = 3;
    private static final int SLOWEST = 50;
    private static final int FIRST_SPEED = 100;
    private static final int FASTEST = 400;
    /** So many halvings leave one of the speeds from the slowest to the fastest. */
    private static final int HALVINGS = 9;

    private static final int UNIT = 0;
    private static final int LEAST_MEASURE = 1;
    private static final int CLAUSE_PERCENT = 2;
    private static final int SENTENCE_PERCENT = 3;
    private static final int FIGURES_PERCENT = 4;
    private static final int STEP_DOWN = 5;
    private static final int STEP_UP = 6;
    private static final int SETTINGS = 7;
    private static final int[] LOWEST_SETTINGS = {1, 1, 100, 100, 100, 0, 0};
    private static final int[] FIRST_SETTINGS = {6, 3, 150, 220, 130, 10, 2};
    private static final int[] HIGHEST_SETTINGS = {50, 10, 400, 400, 300, 50, 20};

    /** How a word is closed. */
    private static final int PLAIN = 0;
    private static final int CLAUSE = 1;
    private static final int SENTENCE = 2;
    private static final int MARK = 3;

    private static final int WORD_PROPERTIES = 11;
    private static final int SPAN_PROPERTIES = 4;

    private final Words words;
    private final State now;
    /** What would be: the questions let ticks go by in it. */
    private final State ahead;
    private final History history;
    private final Orders orders;
    private final int[] times;

    public WordFlasher() {
        words = new Words();
        now = new State(words);
        ahead = new State(words);
        history = new History(words);
        orders = new Orders();
        times = new int[MOST_WORDS];
    }

    // ---- the text

    public int append(int character) {
        if (!isCharacter(character)) {
            return INVALID_ARGUMENT;
        }
        if (now.length >= MOST_CHARACTERS) {
            return LIMIT_REACHED;
        }
        history.keep(now);
        put(now.text, now.length, character);
        now.startAnew(now.length + 1);
        return words.many;
    }

    public int cut(int characters) {
        if (characters < 1 || characters > MOST_CHARACTERS) {
            return INVALID_ARGUMENT;
        }
        if (characters > now.length) {
            return NOT_POSSIBLE;
        }
        history.keep(now);
        now.startAnew(now.length - characters);
        return now.length;
    }

    public int word(int word, int what) {
        if (!words.has(word) || what < 0 || what >= WORD_PROPERTIES) {
            return INVALID_ARGUMENT;
        }
        switch (what) {
            case 0:
                return at(words.starts, word);
            case 1:
                return at(words.sizes, word);
            case 2:
                return at(words.lengths, word);
            case 3:
                return words.classOf(word);
            case 4:
                return at(words.closings, word);
            case 5:
                return at(words.sentences.numbers, word);
            case 6:
                return at(words.pages.numbers, word);
            case 7:
                return now.measureOf(word);
            case 8:
                return now.timeOf(word);
            case 9:
                return at(now.notes, word);
            default:
                return at(words.spots, word);
        }
    }

    public int sentence(int sentence, int what) {
        if (!words.sentences.has(sentence) || what < 0 || what >= SPAN_PROPERTIES) {
            return INVALID_ARGUMENT;
        }
        int first = at(words.sentences.firsts, sentence);
        int last = at(words.sentences.lasts, sentence);
        return what == 3 ? words.shownAmong(first, last) : spanProperty(first, last, what);
    }

    public int page(int page, int what) {
        if (!words.pages.has(page) || what < 0 || what >= SPAN_PROPERTIES) {
            return INVALID_ARGUMENT;
        }
        int first = at(words.pages.firsts, page);
        int last = at(words.pages.lasts, page);
        return what == 3 ? words.sentencesAmong(first, last) : spanProperty(first, last, what);
    }

    /** What sentences and pages have alike. */
    private int spanProperty(int first, int last, int what) {
        switch (what) {
            case 0:
                return first;
            case 1:
                return last;
            default:
                return now.timeOfAll(first, last);
        }
    }

    public int count(int what) {
        if (what >= 20 && what < 20 + SETTINGS) {
            return at(now.settings, what - 20);
        }
        if (what >= 30 && what < 30 + CLASSES) {
            return at(now.speeds, what - 30);
        }
        switch (what) {
            case 0:
                return now.length;
            case 1:
                return words.many;
            case 2:
                return words.sentences.many;
            case 3:
                return words.pages.many;
            case 4:
                return now.present == NONE ? NOT_FOUND : now.present;
            case 5:
                return now.present == NONE ? NOT_FOUND : now.rest;
            case 6:
                return now.placed;
            case 7:
                return now.countNotes();
            case 8:
                return now.ticksGone;
            case 9:
                return now.wordsEnded;
            case 10:
                return now.askings;
            case 11:
                return history.many;
            case 12:
                return orders.length;
            case 13:
                return now.timeOfAll(0, words.many - 1);
            default:
                return INVALID_ARGUMENT;
        }
    }

    public int set(int what, int value) {
        if (what < 0 || what >= SETTINGS) {
            return INVALID_ARGUMENT;
        }
        if (value < at(LOWEST_SETTINGS, what) || value > at(HIGHEST_SETTINGS, what)) {
            return INVALID_ARGUMENT;
        }
        history.keep(now);
        int previous = at(now.settings, what);
        put(now.settings, what, value);
        return previous;
    }

    public int speed(int kind, int value) {
        if (kind < 0 || kind >= CLASSES || value < SLOWEST || value > FASTEST) {
            return INVALID_ARGUMENT;
        }
        history.keep(now);
        int previous = at(now.speeds, kind);
        put(now.speeds, kind, value);
        return previous;
    }

    // ---- showing

    public int run(int ticks) {
        int error = now.passError(ticks);
        if (error != FINE) {
            return error;
        }
        history.keep(now);
        return now.letPass(ticks);
    }

    public int back() {
        int error = now.askError();
        if (error != FINE) {
            return error;
        }
        history.keep(now);
        now.askBack();
        return now.present;
    }

    public int jump(int sentence) {
        int error = now.leapError(sentence);
        if (error != FINE) {
            return error;
        }
        history.keep(now);
        now.leapTo(sentence);
        return now.present;
    }

    public int goBack() {
        int error = now.returnError();
        if (error != FINE) {
            return error;
        }
        history.keep(now);
        now.returnToPlace();
        return now.present;
    }

    public int ifRun(int ticks) {
        int error = now.passError(ticks);
        if (error != FINE) {
            return error;
        }
        ahead.copy(now);
        ahead.letPass(ticks);
        return ahead.present == NONE ? NOT_FOUND : ahead.present;
    }

    public int left() {
        if (now.present == NONE) {
            return NOT_POSSIBLE;
        }
        ahead.copy(now);
        ahead.letPass(UNTIL_ALL_IS_SHOWN);
        return ahead.ticksGone - now.ticksGone;
    }

    public int undo() {
        if (history.many == 0) {
            return NOT_POSSIBLE;
        }
        history.restore(now);
        words.read(now.text, now.length);
        return history.many;
    }

    // ---- notes, rankings, questions

    public int note(int word, int note) {
        int error = now.noteError(word, note);
        if (error != FINE) {
            return error;
        }
        history.keep(now);
        put(now.notes, word, note);
        return now.countNotes();
    }

    public int unnote(int word) {
        if (!words.has(word)) {
            return INVALID_ARGUMENT;
        }
        int removed = at(now.notes, word);
        if (removed == 0) {
            return NOT_FOUND;
        }
        history.keep(now);
        put(now.notes, word, 0);
        return removed;
    }

    public int noted(int from, int way) {
        if (from < 0 || way < 0 || way > 1) {
            return INVALID_ARGUMENT;
        }
        return way == 0 ? now.notedFrom(from) : now.notedBefore(from);
    }

    public int longest(int index) {
        if (index < 0) {
            return INVALID_ARGUMENT;
        }
        for (int w = 0; w < words.many; w++) {
            put(times, w, now.timeOf(w));
        }
        for (int w = 0; w < words.many; w++) {
            if (!words.isMark(w) && rankOf(w) == index) {
                return w;
            }
        }
        return NOT_FOUND;
    }

    /** How many words stand ahead of this one by their times; page marks never do, with their 0. */
    private int rankOf(int word) {
        int time = at(times, word);
        int rank = 0;
        for (int w = 0; w < words.many; w++) {
            int other = at(times, w);
            if (other > time || other == time && w < word) {
                rank++;
            }
        }
        return rank;
    }

    public int speedFor(int page, int ticks) {
        if (!words.pages.has(page) || ticks < 0 || ticks > MOST_PAGE_TICKS) {
            return INVALID_ARGUMENT;
        }
        int first = at(words.pages.firsts, page);
        int last = at(words.pages.lasts, page);
        if (now.timeOfAllWith(first, last, FASTEST) > ticks) {
            return NOT_FOUND;
        }
        int low = SLOWEST;
        int high = FASTEST;
        for (int halving = 0; halving < HALVINGS && low < high; halving++) {
            int middle = (low + high) / 2;
            if (now.timeOfAllWith(first, last, middle) <= ticks) {
                high = middle;
            } else {
                low = middle + 1;
            }
        }
        return low;
    }

    // ---- orders

    public int order(int character) {
        if (!isCharacter(character)) {
            return INVALID_ARGUMENT;
        }
        if (orders.length >= MOST_ORDER_CHARACTERS) {
            return LIMIT_REACHED;
        }
        orders.add(character);
        return orders.length;
    }

    public int clearOrders() {
        int previous = orders.length;
        orders.length = 0;
        return previous;
    }

    public int fault() {
        int position = orders.firstFault();
        return position == NONE ? NOT_FOUND : position;
    }

    public int carry() {
        if (orders.firstFault() != NONE) {
            return NOT_POSSIBLE;
        }
        history.keep(now);
        int carried = 0;
        int position = 0;
        while (carried < MOST_ORDER_CHARACTERS && position >= 0 && position < orders.length) {
            if (!carryOut(orders.characterAt(position), orders.numberBehind(position))) {
                return carried;
            }
            carried++;
            position = orders.endOf(position);
        }
        return carried;
    }

    /** Carries an order out, if it is possible, and tells whether it was. */
    private boolean carryOut(int letter, int number) {
        if (orderError(letter, number) != FINE) {
            return false;
        }
        switch (letter) {
            case 'r':
                now.letPass(number);
                break;
            case 'b':
                now.askBack();
                break;
            case 'j':
                now.leapTo(number);
                break;
            case 'u':
                now.returnToPlace();
                break;
            default:
                put(now.notes, now.present, number);
                break;
        }
        return true;
    }

    private int orderError(int letter, int number) {
        switch (letter) {
            case 'r':
                return now.passError(number);
            case 'b':
                return now.askError();
            case 'j':
                return now.leapError(number);
            case 'u':
                return now.returnError();
            default:
                return now.noteError(now.present, number);
        }
    }

    // ---- characters and rows

    private static boolean isCharacter(int character) {
        return character >= FIRST_CHARACTER && character <= LAST_CHARACTER;
    }

    private static boolean isFigure(int character) {
        return character >= '0' && character <= '9';
    }

    private static boolean isLetter(int character) {
        return character >= 'a' && character <= 'z'
            || character >= 'A' && character <= 'Z'
            || isFigure(character);
    }

    /** Whether a word may have this character behind the one that closes it. */
    private static boolean isTrailing(int character) {
        return character == ')' || character == ']' || character == '"' || character == '\'';
    }

    private static int closingBy(int character) {
        switch (character) {
            case '.':
            case '!':
            case '?':
                return SENTENCE;
            case ',':
            case ';':
            case ':':
                return CLAUSE;
            default:
                return PLAIN;
        }
    }

    private static int at(int[] row, int index) {
        return index >= 0 && index < row.length ? row[index] : 0;
    }

    private static void put(int[] row, int index, int value) {
        if (index >= 0 && index < row.length) {
            row[index] = value;
        }
    }

    private static void fill(int[] row, int value) {
        for (int i = 0; i < row.length; i++) {
            row[i] = value;
        }
    }

    private static void copyRow(int[] from, int[] to) {
        System.arraycopy(from, 0, to, 0, Math.min(from.length, to.length));
    }

    /** Stretches of words, one behind the other, numbered from 0: the sentences, or the pages. */
    private static final class Spans {
        final int[] firsts;
        final int[] lasts;
        /** The number of the stretch of each word. */
        final int[] numbers;
        int many;

        Spans() {
            firsts = new int[MOST_WORDS];
            lasts = new int[MOST_WORDS];
            numbers = new int[MOST_WORDS];
        }

        boolean has(int number) {
            return number >= 0 && number < many;
        }

        void clear() {
            many = 0;
        }

        void add(int word, boolean begins) {
            if (begins) {
                put(firsts, many, word);
                many++;
            }
            put(lasts, many - 1, word);
            put(numbers, word, many - 1);
        }
    }

    /** The words of a text and what follows from their characters alone. */
    private static final class Words {
        final int[] starts;
        final int[] sizes;
        final int[] lengths;
        final int[] closings;
        /** 1 for each word with a figure, else 0. */
        final int[] figures;
        final int[] spots;
        final Spans sentences;
        final Spans pages;
        int many;

        Words() {
            starts = new int[MOST_WORDS];
            sizes = new int[MOST_WORDS];
            lengths = new int[MOST_WORDS];
            closings = new int[MOST_WORDS];
            figures = new int[MOST_WORDS];
            spots = new int[MOST_WORDS];
            sentences = new Spans();
            pages = new Spans();
        }

        void read(int[] text, int length) {
            many = 0;
            int start = 0;
            for (int i = 0; i <= length; i++) {
                if (i == length || at(text, i) == ' ') {
                    if (i > start) {
                        add(text, start, i);
                    }
                    start = i + 1;
                }
            }
            number();
        }

        private void add(int[] text, int start, int end) {
            int length = 0;
            int figure = 0;
            int closing = NONE;
            for (int i = start; i < end; i++) {
                int character = at(text, i);
                if (isLetter(character)) {
                    length++;
                }
                if (isFigure(character)) {
                    figure = 1;
                }
                if (!isTrailing(character)) {
                    closing = character;
                }
            }
            boolean mark = end - start == 1 && closing == '|';
            put(starts, many, start);
            put(sizes, many, end - start);
            put(lengths, many, length);
            put(closings, many, mark ? MARK : closingBy(closing));
            put(figures, many, figure);
            put(spots, many, length == 0 ? NONE : letterIn(text, start, end, (length - 1) / 3));
            many++;
        }

        /** The position in the word of its letter with this number. */
        private int letterIn(int[] text, int start, int end, int number) {
            int passed = 0;
            for (int i = start; i < end; i++) {
                if (isLetter(at(text, i))) {
                    if (passed == number) {
                        return i - start;
                    }
                    passed++;
                }
            }
            return NONE;
        }

        private void number() {
            sentences.clear();
            pages.clear();
            // The first word begins a sentence and a page as one behind a page mark does.
            int before = MARK;
            for (int w = 0; w < many; w++) {
                sentences.add(w, before == SENTENCE || before == MARK);
                pages.add(w, before == MARK);
                before = at(closings, w);
            }
        }

        boolean has(int word) {
            return word >= 0 && word < many;
        }

        boolean isMark(int word) {
            return at(closings, word) == MARK;
        }

        int classOf(int word) {
            int length = at(lengths, word);
            if (length <= 4) {
                return 0;
            }
            return length <= 8 ? 1 : 2;
        }

        int shownAmong(int first, int last) {
            int shown = 0;
            for (int w = first; w <= last; w++) {
                if (!isMark(w)) {
                    shown++;
                }
            }
            return shown;
        }

        int sentencesAmong(int first, int last) {
            return at(sentences.numbers, last) - at(sentences.numbers, first) + 1;
        }

        boolean hasClassAmong(int kind, int first, int last) {
            for (int w = first; w <= last; w++) {
                if (!isMark(w) && classOf(w) == kind) {
                    return true;
                }
            }
            return false;
        }

        /** The next word behind this one that is no page mark, or NONE. */
        int shownBehind(int word) {
            for (int w = word + 1; w < many; w++) {
                if (!isMark(w)) {
                    return w;
                }
            }
            return NONE;
        }

        /** Whether the sentence of a shown word ends ahead of the next shown word, or behind it there is none. */
        boolean endsAheadOf(int next, int shown) {
            return next == NONE || at(sentences.numbers, next) != at(sentences.numbers, shown);
        }

        /** The first word of the last sentence before this one that has shown words. */
        int firstBeforeSentence(int sentence) {
            for (int s = sentence - 1; s >= 0; s--) {
                // A page mark ends its sentence: where it stands first, it stands alone.
                int first = at(sentences.firsts, s);
                if (!isMark(first)) {
                    return first;
                }
            }
            return NONE;
        }
    }

    /** All that the history keeps. The words are those of the present text and are shared. */
    private static final class State {
        private final Words words;
        final int[] text;
        int length;
        final int[] settings;
        final int[] speeds;
        /** The note of each word, 0 without one. */
        final int[] notes;
        int present;
        int rest;
        private final int[] places;
        int placed;
        /** The words that became the present ones latest, the last one first. */
        private final int[] latest;
        /** Whether there was an asking back since a sentence was begun. */
        private boolean askedBack;
        int ticksGone;
        int wordsEnded;
        int askings;

        State(Words ofText) {
            words = ofText;
            text = new int[MOST_CHARACTERS];
            settings = FIRST_SETTINGS.clone();
            speeds = new int[CLASSES];
            notes = new int[MOST_WORDS];
            places = new int[MOST_PLACES];
            latest = new int[MOST_LATEST];
            fill(speeds, FIRST_SPEED);
            fill(latest, NONE);
            present = NONE;
        }

        void copy(State other) {
            copyRow(other.text, text);
            length = other.length;
            copyRow(other.settings, settings);
            copyRow(other.speeds, speeds);
            copyRow(other.notes, notes);
            present = other.present;
            rest = other.rest;
            copyRow(other.places, places);
            placed = other.placed;
            copyRow(other.latest, latest);
            askedBack = other.askedBack;
            ticksGone = other.ticksGone;
            wordsEnded = other.wordsEnded;
            askings = other.askings;
        }

        // ---- altering the text

        void startAnew(int newLength) {
            length = newLength;
            words.read(text, length);
            placed = 0;
            askedBack = false;
            fill(latest, NONE);
            for (int w = 0; w < notes.length; w++) {
                if (!words.has(w) || words.isMark(w)) {
                    notes[w] = 0;
                }
            }
            becomePresent(words.shownBehind(NONE));
        }

        // ---- times

        int measureOf(int word) {
            int measure = at(words.lengths, word);
            if (measure > 10) {
                measure -= (measure - 10 + 1) / 2;
            }
            return Math.max(measure, at(settings, LEAST_MEASURE));
        }

        private int percentOf(int word) {
            int closing = at(words.closings, word);
            int percent = 100;
            if (closing == CLAUSE) {
                percent = at(settings, CLAUSE_PERCENT);
            } else if (closing == SENTENCE) {
                percent = at(settings, SENTENCE_PERCENT);
            }
            if (at(words.figures, word) == 1) {
                percent = percent * at(settings, FIGURES_PERCENT) / 100;
            }
            return percent;
        }

        private int timeWith(int word, int speed) {
            if (speed <= 0 || words.isMark(word)) {
                return 0;
            }
            int whole = measureOf(word) * at(settings, UNIT) * percentOf(word);
            return (whole + speed - 1) / speed;
        }

        int timeOf(int word) {
            return timeWith(word, speedOf(word));
        }

        private int speedOf(int word) {
            return at(speeds, words.classOf(word));
        }

        int timeOfAll(int first, int last) {
            int time = 0;
            for (int w = first; w <= last; w++) {
                time += timeOf(w);
            }
            return time;
        }

        int timeOfAllWith(int first, int last, int speed) {
            int time = 0;
            for (int w = first; w <= last; w++) {
                time += timeWith(w, speed);
            }
            return time;
        }

        // ---- showing

        /** Where there is no such word, there is no present word from now on. */
        private void becomePresent(int word) {
            if (!words.has(word)) {
                present = NONE;
                rest = 0;
                return;
            }
            present = word;
            rest = timeWith(word, speedOf(word));
            for (int i = latest.length - 1; i > 0; i--) {
                latest[i] = latest[i - 1];
            }
            put(latest, 0, word);
        }

        int passError(int ticks) {
            if (ticks < 1 || ticks > MOST_TICKS) {
                return INVALID_ARGUMENT;
            }
            return present == NONE ? NOT_POSSIBLE : FINE;
        }

        /** Lets ticks go by and tells how many words are shown to their end. */
        int letPass(int ticks) {
            int unspent = ticks;
            int ended = 0;
            // Each turn goes on by a word at least, so there are no more turns than words.
            while (ended < MOST_WORDS && present != NONE && unspent >= rest) {
                unspent -= rest;
                ticksGone += rest;
                ended++;
                int next = words.shownBehind(present);
                if (words.endsAheadOf(next, present)) {
                    endSentenceOf(present);
                }
                becomePresent(next);
            }
            if (present != NONE) {
                rest -= unspent;
                ticksGone += unspent;
            }
            wordsEnded += ended;
            return ended;
        }

        private void endSentenceOf(int shown) {
            int sentence = at(words.sentences.numbers, shown);
            int first = at(words.sentences.firsts, sentence);
            for (int kind = 0; kind < CLASSES && !askedBack; kind++) {
                if (words.hasClassAmong(kind, first, shown)) {
                    put(speeds, kind, Math.min(FASTEST, at(speeds, kind) + at(settings, STEP_UP)));
                }
            }
            // The next word begins a sentence; where there is none, all that can follow says anew what this is.
            askedBack = false;
        }

        int askError() {
            return words.shownBehind(NONE) == NONE ? NOT_POSSIBLE : FINE;
        }

        void askBack() {
            for (int kind = 0; kind < CLASSES; kind++) {
                if (isClassOfLatest(kind)) {
                    put(speeds, kind, Math.max(SLOWEST, at(speeds, kind) - at(settings, STEP_DOWN)));
                }
            }
            askedBack = true;
            askings++;
            becomePresent(wordAskedFor());
        }

        private boolean isClassOfLatest(int kind) {
            for (int i = 0; i < latest.length; i++) {
                if (latest[i] != NONE && words.classOf(latest[i]) == kind) {
                    return true;
                }
            }
            return false;
        }

        private int wordAskedFor() {
            if (present == NONE) {
                return words.firstBeforeSentence(words.sentences.many);
            }
            int sentence = at(words.sentences.numbers, present);
            int first = at(words.sentences.firsts, sentence);
            if (present != first) {
                return first;
            }
            int before = words.firstBeforeSentence(sentence);
            return before == NONE ? present : before;
        }

        int leapError(int sentence) {
            if (!words.sentences.has(sentence)) {
                return INVALID_ARGUMENT;
            }
            if (present == NONE || words.isMark(at(words.sentences.firsts, sentence))) {
                return NOT_POSSIBLE;
            }
            return FINE;
        }

        void leapTo(int sentence) {
            if (placed >= MOST_PLACES) {
                for (int i = 1; i < places.length; i++) {
                    places[i - 1] = places[i];
                }
                placed = MOST_PLACES - 1;
            }
            put(places, placed, present);
            placed++;
            askedBack = false;
            becomePresent(at(words.sentences.firsts, sentence));
        }

        int returnError() {
            return placed == 0 ? NOT_POSSIBLE : FINE;
        }

        void returnToPlace() {
            placed--;
            askedBack = false;
            becomePresent(at(places, placed));
        }

        // ---- notes

        int countNotes() {
            int noted = 0;
            for (int w = 0; w < notes.length; w++) {
                if (notes[w] != 0) {
                    noted++;
                }
            }
            return noted;
        }

        int noteError(int word, int note) {
            if (!words.has(word) || note < 1 || note > HIGHEST_NOTE) {
                return INVALID_ARGUMENT;
            }
            if (words.isMark(word)) {
                return NOT_POSSIBLE;
            }
            return at(notes, word) == 0 && countNotes() >= MOST_NOTED ? LIMIT_REACHED : FINE;
        }

        int notedFrom(int from) {
            for (int w = from; w < notes.length; w++) {
                if (at(notes, w) != 0) {
                    return w;
                }
            }
            return NOT_FOUND;
        }

        int notedBefore(int from) {
            for (int w = Math.min(from, notes.length) - 1; w >= 0; w--) {
                if (at(notes, w) != 0) {
                    return w;
                }
            }
            return NOT_FOUND;
        }
    }

    /** The states before the latest changes, the oldest one first. */
    private static final class History {
        private final State[] states;
        int many;

        History(Words ofText) {
            states = new State[MOST_STATES];
            for (int i = 0; i < states.length; i++) {
                states[i] = new State(ofText);
            }
        }

        void keep(State state) {
            if (many >= MOST_STATES) {
                dropOldest();
            }
            State free = stateAt(many);
            if (free != null) {
                free.copy(state);
                many++;
            }
        }

        /** The oldest state goes to the end, to be written anew. */
        private void dropOldest() {
            State oldest = stateAt(0);
            for (int i = 1; i < states.length; i++) {
                states[i - 1] = states[i];
            }
            if (states.length > 0) {
                states[states.length - 1] = oldest;
            }
            many = MOST_STATES - 1;
        }

        void restore(State into) {
            State latest = stateAt(many - 1);
            if (latest != null) {
                into.copy(latest);
                many--;
            }
        }

        private State stateAt(int index) {
            return index >= 0 && index < states.length ? states[index] : null;
        }
    }

    /** The order text. */
    private static final class Orders {
        private final int[] characters;
        int length;

        Orders() {
            characters = new int[MOST_ORDER_CHARACTERS];
        }

        void add(int character) {
            put(characters, length, character);
            length++;
        }

        int characterAt(int position) {
            return position < length ? at(characters, position) : 0;
        }

        /** The position of the first order that is none, or NONE. */
        int firstFault() {
            int position = 0;
            for (int i = 0; i < MOST_ORDER_CHARACTERS && position < length; i++) {
                int end = endOf(position);
                if (end == NONE) {
                    return position;
                }
                position = end;
            }
            return NONE;
        }

        /** The position behind the semicolon of the order at a position, or NONE if no order stands there. */
        int endOf(int position) {
            int digits = digitsBehind(position);
            int end = position + 1 + digits;
            if (characterAt(end) != ';') {
                return NONE;
            }
            return isOrder(characterAt(position), digits, numberBehind(position)) ? end + 1 : NONE;
        }

        private boolean isOrder(int letter, int digits, int number) {
            boolean numbered = digits > 0;
            switch (letter) {
                case 'b':
                case 'u':
                    return digits == 0;
                case 'r':
                    return numbered && number >= 1;
                case 'j':
                    return numbered;
                case 'n':
                    return numbered && number >= 1 && number <= HIGHEST_NOTE;
                default:
                    return false;
            }
        }

        /** How many digits belong to the order at a position; one too many stands where its semicolon is due. */
        private int digitsBehind(int position) {
            int digits = 0;
            while (digits < MOST_DIGITS && isFigure(characterAt(position + 1 + digits))) {
                digits++;
            }
            return digits;
        }

        int numberBehind(int position) {
            int digits = digitsBehind(position);
            int number = 0;
            for (int i = 1; i <= digits; i++) {
                number = number * 10 + characterAt(position + i) - '0';
            }
            return number;
        }
    }
}
