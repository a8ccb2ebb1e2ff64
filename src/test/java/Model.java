import java.util.ArrayDeque;
import java.util.ArrayList;
import java.util.Arrays;
import java.util.Collections;
import java.util.Comparator;
import java.util.List;
import java.util.Map;
import java.util.Set;
import java.util.TreeMap;
import java.util.TreeSet;
import java.util.regex.Matcher;
import java.util.regex.Pattern;

/** The document once more, as plainly as the Java library lets it be written: everything is found anew at each call. */
final class Model {
    private static final int INVALID = -1;
    private static final int IMPOSSIBLE = -2;
    private static final int LIMIT = -3;
    private static final int MISSING = -4;

    private static final Pattern ORDER = Pattern.compile(
        "b;|u;|r(?!0+;)[0-9]{1,3};|j[0-9]{1,3};|n(?!0+;)0?[0-9]{1,2};");

    /** A word as it stands in the text. */
    private record Word(int start, String text, int sentence, int page) {
        boolean mark() {
            return text.equals("|");
        }

        String letters() {
            return text.replaceAll("[^a-zA-Z0-9]", "");
        }

        int kind() {
            int length = letters().length();
            return length <= 4 ? 0 : length <= 8 ? 1 : 2;
        }

        char closing() {
            String bare = text.replaceAll("[\\])\"']+$", "");
            return bare.isEmpty() ? ' ' : bare.charAt(bare.length() - 1);
        }

        int end() {
            if (mark()) {
                return 3;
            }
            return ".!?".indexOf(closing()) >= 0 ? 2 : ",;:".indexOf(closing()) >= 0 ? 1 : 0;
        }

        int spot() {
            if (letters().isEmpty()) {
                return -1;
            }
            int letter = (letters().length() - 1) / 3;
            Matcher m = Pattern.compile("[a-zA-Z0-9]").matcher(text);
            for (int i = 0; i <= letter; i++) {
                m.find();
            }
            return m.start();
        }
    }

    private static final class State {
        String text = "";
        int[] settings = {6, 3, 150, 220, 130, 10, 2};
        int[] speeds = {100, 100, 100};
        TreeMap<Integer, Integer> notes = new TreeMap<>();
        /** null if there is none. */
        Integer present = null;
        int rest = 0;
        ArrayList<Integer> stack = new ArrayList<>();
        ArrayList<Integer> became = new ArrayList<>();
        boolean asked = false;
        int ticks = 0;
        int ended = 0;
        int askings = 0;

        State copy() {
            State c = new State();
            c.text = text;
            c.settings = settings.clone();
            c.speeds = speeds.clone();
            c.notes = new TreeMap<>(notes);
            c.present = present;
            c.rest = rest;
            c.stack = new ArrayList<>(stack);
            c.became = new ArrayList<>(became);
            c.asked = asked;
            c.ticks = ticks;
            c.ended = ended;
            c.askings = askings;
            return c;
        }
    }

    private State s = new State();
    private final ArrayDeque<State> history = new ArrayDeque<>();
    private String orders = "";
    private String wordsOf = null;
    private List<Word> cached = List.of();

    // ---- what follows from the text

    private List<Word> words() {
        if (s.text.equals(wordsOf)) {
            return cached;
        }
        List<Word> all = new ArrayList<>();
        Matcher m = Pattern.compile("[^ ]+").matcher(s.text);
        int sentence = 0;
        int page = 0;
        while (m.find()) {
            Word w = new Word(m.start(), m.group(), sentence, page);
            all.add(w);
            if (w.end() >= 2) {
                sentence++;
            }
            if (w.end() == 3) {
                page++;
            }
        }
        wordsOf = s.text;
        cached = all;
        return all;
    }

    private List<Integer> numbersOf(int sentence, int page) {
        List<Integer> found = new ArrayList<>();
        for (int i = 0; i < words().size(); i++) {
            Word w = words().get(i);
            if ((sentence < 0 || w.sentence() == sentence) && (page < 0 || w.page() == page)) {
                found.add(i);
            }
        }
        return found;
    }

    private int sentenceCount() {
        return words().isEmpty() ? 0 : words().get(words().size() - 1).sentence() + 1;
    }

    private int pageCount() {
        return words().isEmpty() ? 0 : words().get(words().size() - 1).page() + 1;
    }

    private List<Integer> shownOf(int sentence) {
        List<Integer> found = new ArrayList<>(numbersOf(sentence, -1));
        found.removeIf(i -> words().get(i).mark());
        return found;
    }

    private int measure(Word w) {
        int length = w.letters().length();
        int above = Math.max(0, length - 10);
        int uncounted = above / 2 + above % 2;
        return Math.max(s.settings[1], length - uncounted);
    }

    private int time(Word w, int speed) {
        if (w.mark()) {
            return 0;
        }
        int percent = w.end() == 2 ? s.settings[3] : w.end() == 1 ? s.settings[2] : 100;
        if (w.text().matches(".*[0-9].*")) {
            percent = percent * s.settings[4] / 100;
        }
        int whole = measure(w) * s.settings[0] * percent;
        return whole / speed + (whole % speed == 0 ? 0 : 1);
    }

    private int time(int number) {
        Word w = words().get(number);
        return time(w, s.speeds[w.kind()]);
    }

    private int time(List<Integer> numbers) {
        int sum = 0;
        for (int i : numbers) {
            sum += time(i);
        }
        return sum;
    }

    // ---- showing

    private void present(int number) {
        s.present = number;
        s.rest = time(number);
        s.became.add(number);
    }

    private int pass(int ticks) {
        int unspent = ticks;
        int shown = 0;
        while (unspent > 0 && s.present != null) {
            int step = Math.min(unspent, s.rest);
            s.rest -= step;
            unspent -= step;
            s.ticks += step;
            if (s.rest == 0) {
                shown++;
                int from = s.present;
                int i = from;
                grow(i);
                do {
                    i++;
                    if (i < words().size() && words().get(i).mark()) {
                        grow(i);
                    }
                } while (i < words().size() && words().get(i).mark());
                if (i == words().size()) {
                    s.present = null;
                } else {
                    if (words().get(i).sentence() > words().get(from).sentence()) {
                        s.asked = false;
                    }
                    present(i);
                }
            }
        }
        s.ended += shown;
        return shown;
    }

    private void grow(int number) {
        List<Integer> all = numbersOf(words().get(number).sentence(), -1);
        if (all.get(all.size() - 1) != number || s.asked) {
            return;
        }
        Set<Integer> kinds = new TreeSet<>();
        for (int i : shownOf(words().get(number).sentence())) {
            kinds.add(words().get(i).kind());
        }
        for (int kind : kinds) {
            s.speeds[kind] = Math.min(400, s.speeds[kind] + s.settings[6]);
        }
    }

    private void askBack() {
        Set<Integer> kinds = new TreeSet<>();
        for (int i : s.became.subList(Math.max(0, s.became.size() - 3), s.became.size())) {
            kinds.add(words().get(i).kind());
        }
        for (int kind : kinds) {
            s.speeds[kind] = Math.max(50, s.speeds[kind] - s.settings[5]);
        }
        List<Integer> begins = new ArrayList<>();
        for (int sentence = 0; sentence < sentenceCount(); sentence++) {
            if (!shownOf(sentence).isEmpty()) {
                begins.add(shownOf(sentence).get(0));
            }
        }
        // The last begin ahead of the present word; where there is none, the first one is the present word.
        int to = begins.get(0);
        for (int begin : begins) {
            if (s.present == null || begin < s.present) {
                to = begin;
            }
        }
        s.asked = true;
        s.askings++;
        present(to);
    }

    private void alter(String text) {
        s.text = text;
        s.stack.clear();
        s.became.clear();
        s.asked = false;
        s.present = null;
        s.notes.keySet().removeIf(i -> i >= words().size() || words().get(i).mark());
        for (int i = words().size() - 1; i >= 0; i--) {
            if (!words().get(i).mark()) {
                s.present = i;
            }
        }
        if (s.present != null) {
            present(s.present);
        }
    }

    private void keep() {
        history.addLast(s.copy());
        if (history.size() == 5) {
            history.removeFirst();
        }
    }

    private static boolean outside(int value, int least, int most) {
        return value < least || value > most;
    }

    // ---- the calls

    int append(int character) {
        if (outside(character, 32, 126)) {
            return INVALID;
        }
        if (s.text.length() == 300) {
            return LIMIT;
        }
        keep();
        alter(s.text + (char) character);
        return words().size();
    }

    int cut(int characters) {
        if (outside(characters, 1, 300)) {
            return INVALID;
        }
        if (s.text.length() < characters) {
            return IMPOSSIBLE;
        }
        keep();
        alter(s.text.substring(0, s.text.length() - characters));
        return s.text.length();
    }

    int word(int word, int what) {
        if (outside(word, 0, words().size() - 1) || outside(what, 0, 10)) {
            return INVALID;
        }
        Word w = words().get(word);
        List<Integer> all = List.of(w.start(), w.text().length(), w.letters().length(), w.kind(), w.end(), w.sentence(),
            w.page(), measure(w), time(word), s.notes.getOrDefault(word, 0));
        return what == 10 ? w.spot() : all.get(what);
    }

    int sentence(int sentence, int what) {
        if (outside(sentence, 0, sentenceCount() - 1) || outside(what, 0, 3)) {
            return INVALID;
        }
        List<Integer> all = numbersOf(sentence, -1);
        return List.of(all.get(0), all.get(all.size() - 1), time(all), shownOf(sentence).size()).get(what);
    }

    int page(int page, int what) {
        if (outside(page, 0, pageCount() - 1) || outside(what, 0, 3)) {
            return INVALID;
        }
        List<Integer> all = numbersOf(-1, page);
        Set<Integer> inside = new TreeSet<>();
        for (int i : all) {
            inside.add(words().get(i).sentence());
        }
        return List.of(all.get(0), all.get(all.size() - 1), time(all), inside.size()).get(what);
    }

    int count(int what) {
        Map<Integer, Integer> all = new TreeMap<>();
        int number = 0;
        for (int value : new int[] {s.text.length(), words().size(), sentenceCount(), pageCount(),
            s.present == null ? MISSING : s.present, s.present == null ? MISSING : s.rest, s.stack.size(),
            s.notes.size(), s.ticks, s.ended, s.askings, history.size(), orders.length(), time(numbersOf(-1, -1))}) {
            all.put(number++, value);
        }
        for (int i = 0; i < 7; i++) {
            all.put(20 + i, s.settings[i]);
        }
        for (int i = 0; i < 3; i++) {
            all.put(30 + i, s.speeds[i]);
        }
        return all.getOrDefault(what, INVALID);
    }

    int set(int what, int value) {
        int[][] ranges = {{1, 50}, {1, 10}, {100, 400}, {100, 400}, {100, 300}, {0, 50}, {0, 20}};
        if (outside(what, 0, 6) || outside(value, ranges[what][0], ranges[what][1])) {
            return INVALID;
        }
        keep();
        int previous = s.settings[what];
        s.settings[what] = value;
        return previous;
    }

    int speed(int kind, int value) {
        if (outside(kind, 0, 2) || outside(value, 50, 400)) {
            return INVALID;
        }
        keep();
        int previous = s.speeds[kind];
        s.speeds[kind] = value;
        return previous;
    }

    private int runError(int ticks) {
        return outside(ticks, 1, 9999) ? INVALID : s.present == null ? IMPOSSIBLE : 0;
    }

    int run(int ticks) {
        if (runError(ticks) != 0) {
            return runError(ticks);
        }
        keep();
        return pass(ticks);
    }

    private boolean allMarks() {
        return words().stream().allMatch(Word::mark);
    }

    int back() {
        if (allMarks()) {
            return IMPOSSIBLE;
        }
        keep();
        askBack();
        return s.present;
    }

    private int jumpError(int sentence) {
        if (outside(sentence, 0, sentenceCount() - 1)) {
            return INVALID;
        }
        return shownOf(sentence).isEmpty() || s.present == null ? IMPOSSIBLE : 0;
    }

    private void leap(int sentence) {
        s.stack.add(s.present);
        if (s.stack.size() > 5) {
            s.stack.remove(0);
        }
        s.asked = false;
        present(shownOf(sentence).get(0));
    }

    int jump(int sentence) {
        if (jumpError(sentence) != 0) {
            return jumpError(sentence);
        }
        keep();
        leap(sentence);
        return s.present;
    }

    private void comeBack() {
        s.asked = false;
        present(s.stack.remove(s.stack.size() - 1));
    }

    int goBack() {
        if (s.stack.isEmpty()) {
            return IMPOSSIBLE;
        }
        keep();
        comeBack();
        return s.present;
    }

    int ifRun(int ticks) {
        if (runError(ticks) != 0) {
            return runError(ticks);
        }
        State before = s.copy();
        pass(ticks);
        int answer = s.present == null ? MISSING : s.present;
        s = before;
        return answer;
    }

    int left() {
        if (s.present == null) {
            return IMPOSSIBLE;
        }
        State before = s.copy();
        int ticks = 0;
        while (s.present != null) {
            ticks += s.rest;
            pass(s.rest);
        }
        s = before;
        return ticks;
    }

    int undo() {
        if (history.isEmpty()) {
            return IMPOSSIBLE;
        }
        s = history.removeLast();
        return history.size();
    }

    private int noteError(int word, int note) {
        if (outside(word, 0, words().size() - 1) || outside(note, 1, 99)) {
            return INVALID;
        }
        if (words().get(word).mark()) {
            return IMPOSSIBLE;
        }
        return s.notes.size() == 10 && !s.notes.containsKey(word) ? LIMIT : 0;
    }

    int note(int word, int note) {
        if (noteError(word, note) != 0) {
            return noteError(word, note);
        }
        keep();
        s.notes.put(word, note);
        return s.notes.size();
    }

    int unnote(int word) {
        if (outside(word, 0, words().size() - 1)) {
            return INVALID;
        }
        if (!s.notes.containsKey(word)) {
            return MISSING;
        }
        keep();
        return s.notes.remove(word);
    }

    int noted(int from, int way) {
        if (from < 0 || outside(way, 0, 1)) {
            return INVALID;
        }
        Integer found = way == 0 ? s.notes.ceilingKey(from) : s.notes.lowerKey(from);
        return found == null ? MISSING : found;
    }

    int longest(int index) {
        if (index < 0) {
            return INVALID;
        }
        List<Integer> all = new ArrayList<>(numbersOf(-1, -1));
        all.removeIf(i -> words().get(i).mark());
        // The sort is stable, so equal times stay by ascending numbers.
        Collections.sort(all, Comparator.comparingInt((Integer i) -> time(i)).reversed());
        return index < all.size() ? all.get(index) : MISSING;
    }

    int speedFor(int page, int ticks) {
        if (outside(page, 0, pageCount() - 1) || outside(ticks, 0, 100000)) {
            return INVALID;
        }
        int[] before = s.speeds;
        int answer = MISSING;
        for (int speed = 400; speed >= 50; speed--) {
            s.speeds = new int[] {speed, speed, speed};
            if (time(numbersOf(-1, page)) <= ticks) {
                answer = speed;
            }
        }
        s.speeds = before;
        return answer;
    }

    int order(int character) {
        if (outside(character, 32, 126)) {
            return INVALID;
        }
        if (orders.length() == 60) {
            return LIMIT;
        }
        orders = orders + (char) character;
        return orders.length();
    }

    int clearOrders() {
        int length = orders.length();
        orders = "";
        return length;
    }

    int fault() {
        Matcher m = ORDER.matcher(orders);
        int position = 0;
        while (position < orders.length()) {
            if (!m.find(position) || m.start() != position) {
                return position;
            }
            position = m.end();
        }
        return MISSING;
    }

    int carry() {
        if (fault() != MISSING) {
            return IMPOSSIBLE;
        }
        keep();
        int carried = 0;
        for (String order : Arrays.asList(orders.split(";"))) {
            if (order.isEmpty() || !carryOut(order.charAt(0), order.substring(1))) {
                return carried;
            }
            carried++;
        }
        return carried;
    }

    private boolean carryOut(char letter, String digits) {
        int number = digits.isEmpty() ? 0 : Integer.parseInt(digits);
        if (letter == 'r' && runError(number) == 0) {
            pass(number);
        } else if (letter == 'b' && !allMarks()) {
            askBack();
        } else if (letter == 'j' && jumpError(number) == 0) {
            leap(number);
        } else if (letter == 'u' && !s.stack.isEmpty()) {
            comeBack();
        } else if (letter == 'n' && s.present != null && noteError(s.present, number) == 0) {
            s.notes.put(s.present, number);
        } else {
            return false;
        }
        return true;
    }
}
