import java.util.ArrayDeque;
import java.util.ArrayList;
import java.util.Comparator;
import java.util.HashMap;
import java.util.List;
import java.util.Map;

/** The document's words once more, with texts and lists and without a thought of speed: what the class is compared with. */
final class Model {
    static final int BAD_INDEX = -1001, BAD_VALUE = -1002, NOT_POSSIBLE = -1003, FULL = -1004, NONE = -1005;

    private record Note(int number, boolean attached, int start, int end, int weight,
                        String prefix, String quote, String suffix) {
        Note at(int from, int to, boolean isAttached) {
            return new Note(number, isAttached, from, to, weight, prefix, quote, suffix);
        }

        Note weighing(int much) {
            return new Note(number, attached, start, end, much, prefix, quote, suffix);
        }

        Note quoting(String document) {
            return new Note(number, attached, start, end, weight, document.substring(Math.max(0, start - 6), start),
                document.substring(start, end), document.substring(end, Math.min(document.length(), end + 6)));
        }
    }

    private record State(String document, List<Note> notes, int next) {
    }

    private record Saved(State state, int threshold) {
    }

    private record Candidate(int score, int start, int end) {
    }

    private static final Comparator<Candidate> BETTER = Comparator.comparingInt((Candidate c) -> -c.score())
        .thenComparingInt(Candidate::start).thenComparingInt(c -> c.end() - c.start());

    private String buffer = "";
    private State now = new State("", List.of(), 0);
    private int threshold = 60;
    private final ArrayDeque<State> history = new ArrayDeque<>();
    private final Saved[] slots = new Saved[2];

    private void become(State then) {
        history.addLast(now);
        if (history.size() > 6) {
            history.removeFirst();
        }
        now = then;
    }

    private void become(List<Note> notes) {
        become(new State(now.document, notes, now.next));
    }

    private Note find(int number) {
        for (Note note : now.notes) {
            if (note.number == number) {
                return note;
            }
        }
        return null;
    }

    private List<Note> replacing(Note by) {
        List<Note> notes = new ArrayList<>();
        for (Note note : now.notes) {
            notes.add(note.number == by.number ? by : note);
        }
        return notes;
    }

    int type(int letter) {
        if (letter < 32 || letter > 126) {
            return BAD_VALUE;
        }
        if (buffer.length() == 40) {
            return FULL;
        }
        buffer += (char) letter;
        return buffer.length();
    }

    int clearBuffer() {
        int length = buffer.length();
        buffer = "";
        return length;
    }

    int load() {
        int length = length();
        int most = buffer.length();
        List<Note> notes = new ArrayList<>();
        for (Note note : now.notes) {
            notes.add(note.at(Math.min(most, note.start), Math.min(most, note.end), false));
        }
        become(new State(buffer, notes, now.next));
        return length;
    }

    int insert(int p) {
        if (p < 0 || p > length()) {
            return BAD_INDEX;
        }
        int n = buffer.length();
        if (length() + n > 120) {
            return FULL;
        }
        List<Note> notes = new ArrayList<>();
        for (Note note : now.notes) {
            if (note.start >= p) {
                notes.add(note.at(note.start + n, note.end + n, note.attached));
            } else {
                notes.add(note.at(note.start, note.end > p ? note.end + n : note.end, note.attached));
            }
        }
        become(new State(now.document.substring(0, p) + buffer + now.document.substring(p), notes, now.next));
        return length();
    }

    private static int afterDelete(int bound, int p, int n) {
        if (bound >= p + n) {
            return bound - n;
        }
        return bound >= p ? p : bound;
    }

    int delete(int p, int n) {
        if (p < 0 || p > length()) {
            return BAD_INDEX;
        }
        if (n < 0 || n > 120 || p + n > length()) {
            return BAD_VALUE;
        }
        int orphaned = 0;
        List<Note> notes = new ArrayList<>();
        for (Note note : now.notes) {
            int start = afterDelete(note.start, p, n);
            int end = afterDelete(note.end, p, n);
            orphaned += note.attached && start == end ? 1 : 0;
            notes.add(note.at(start, end, note.attached && start < end));
        }
        become(new State(now.document.substring(0, p) + now.document.substring(p + n), notes, now.next));
        return orphaned;
    }

    int comment(int from, int to) {
        if (from < 0 || from > length()) {
            return BAD_INDEX;
        }
        if (to > length() || (long) to - from < 1 || (long) to - from > 16) {
            return BAD_VALUE;
        }
        if (comments() == 10) {
            return FULL;
        }
        List<Note> notes = new ArrayList<>(now.notes);
        notes.add(new Note(now.next, true, from, to, 1, "", "", "").quoting(now.document));
        become(new State(now.document, notes, now.next + 1));
        return now.next - 1;
    }

    int remove(int comment) {
        Note note = find(comment);
        if (note == null) {
            return BAD_INDEX;
        }
        List<Note> notes = new ArrayList<>(now.notes);
        notes.remove(note);
        become(notes);
        return comments();
    }

    int quoteAnew(int comment) {
        Note note = find(comment);
        if (note == null) {
            return BAD_INDEX;
        }
        if (!note.attached || note.end - note.start > 16) {
            return NOT_POSSIBLE;
        }
        become(replacing(note.quoting(now.document)));
        return note.end - note.start;
    }

    int attach(int comment) {
        Note note = find(comment);
        if (note == null) {
            return BAD_INDEX;
        }
        if (note.attached) {
            return NOT_POSSIBLE;
        }
        List<Candidate> candidates = candidates(note);
        if (candidates.isEmpty() || candidates.get(0).score < threshold) {
            return NONE;
        }
        become(replacing(note.at(candidates.get(0).start, candidates.get(0).end, true)));
        return candidates.get(0).start;
    }

    int attachAll() {
        List<Note> orphans = new ArrayList<>();
        for (Note note : now.notes) {
            if (!note.attached) {
                orphans.add(note);
            }
        }
        if (orphans.isEmpty()) {
            return NONE;
        }
        orphans.sort(Comparator.comparingInt(Note::start).thenComparingInt(Note::number));
        List<List<Candidate>> choices = new ArrayList<>();
        for (Note orphan : orphans) {
            List<Candidate> good = new ArrayList<>(candidates(orphan));
            good.removeIf(candidate -> candidate.score < threshold);
            choices.add(good);
        }
        List<Candidate> way = way(choices);
        State before = now;
        int attached = 0;
        for (int i = 0; i < way.size(); i++) {
            Candidate got = way.get(i);
            if (got != null) {
                now = new State(now.document, replacing(orphans.get(i).at(got.start, got.end, true)), now.next);
                attached++;
            }
        }
        State then = now;
        now = before;
        become(then);
        return attached;
    }

    /** For each list the candidate that is got, or null; the candidates of each list stand in the order of preference. */
    private static List<Candidate> way(List<List<Candidate>> choices) {
        Map<Integer, Integer> sums = new HashMap<>();
        List<Candidate> way = new ArrayList<>();
        int from = 0;
        for (int i = 0; i < choices.size(); i++) {
            int sum = greatestSum(choices, i, from, sums);
            Candidate got = null;
            for (Candidate candidate : choices.get(i)) {
                if (got == null && candidate.start >= from
                    && candidate.score + greatestSum(choices, i + 1, candidate.start, sums) == sum) {
                    got = candidate;
                }
            }
            way.add(got);
            from = got == null ? from : got.start;
        }
        return way;
    }

    private static int greatestSum(List<List<Candidate>> choices, int i, int from, Map<Integer, Integer> sums) {
        if (i == choices.size()) {
            return 0;
        }
        Integer known = sums.get(i * 1000 + from);
        if (known != null) {
            return known;
        }
        int greatest = greatestSum(choices, i + 1, from, sums);
        for (Candidate candidate : choices.get(i)) {
            if (candidate.start >= from) {
                int sum = candidate.score + greatestSum(choices, i + 1, candidate.start, sums);
                greatest = Math.max(greatest, sum);
            }
        }
        sums.put(i * 1000 + from, greatest);
        return greatest;
    }

    int merge() {
        List<Note> notes = new ArrayList<>();
        for (Note note : now.notes) {
            int twin = -1;
            for (int i = 0; i < notes.size(); i++) {
                Note other = notes.get(i);
                if (note.attached && other.attached && note.start == other.start && note.end == other.end) {
                    twin = i;
                }
            }
            if (twin < 0) {
                notes.add(note);
            } else {
                notes.set(twin, notes.get(twin).weighing(notes.get(twin).weight + note.weight));
            }
        }
        int removed = comments() - notes.size();
        if (removed == 0) {
            return NONE;
        }
        become(notes);
        return removed;
    }

    int undo() {
        if (history.isEmpty()) {
            return NOT_POSSIBLE;
        }
        now = history.removeLast();
        return history.size();
    }

    int length() {
        return now.document.length();
    }

    int letter(int index) {
        return index < 0 || index >= length() ? BAD_INDEX : now.document.charAt(index);
    }

    int comments() {
        return now.notes.size();
    }

    int commentAt(int index) {
        return index < 0 || index >= comments() ? BAD_INDEX : now.notes.get(index).number;
    }

    int state(int comment) {
        Note note = find(comment);
        return note == null ? BAD_INDEX : note.attached ? 1 : 0;
    }

    int range(int comment, boolean end) {
        Note note = find(comment);
        return note == null ? BAD_INDEX : end ? note.end : note.start;
    }

    int weight(int comment) {
        Note note = find(comment);
        return note == null ? BAD_INDEX : note.weight;
    }

    int quoted(int comment, int part, int index) {
        Note note = find(comment);
        if (note == null) {
            return BAD_INDEX;
        }
        if (part < 0 || part > 2) {
            return BAD_VALUE;
        }
        String text = List.of(note.prefix, note.quote, note.suffix).get(part);
        return index < 0 || index >= text.length() ? NONE : text.charAt(index);
    }

    int distance(int comment) {
        Note note = find(comment);
        if (note == null) {
            return BAD_INDEX;
        }
        return note.attached ? edits(note.quote, now.document.substring(note.start, note.end)) : NOT_POSSIBLE;
    }

    int score(int comment, int from, int to) {
        Note note = find(comment);
        if (note == null || from < 0 || from > length()) {
            return BAD_INDEX;
        }
        if (to > length() || (long) to - from < 1 || (long) to - from > 30) {
            return BAD_VALUE;
        }
        return scoreOf(note, from, to);
    }

    int best(int comment, int what) {
        Note note = find(comment);
        if (note == null) {
            return BAD_INDEX;
        }
        if (what < 0 || what > 2) {
            return BAD_VALUE;
        }
        List<Candidate> candidates = candidates(note);
        if (candidates.isEmpty()) {
            return NONE;
        }
        Candidate best = candidates.get(0);
        return List.of(best.score, best.start, best.end).get(what);
    }

    int overlap(int comment, int other) {
        Note one = find(comment);
        Note two = find(other);
        if (one == null || two == null) {
            return BAD_INDEX;
        }
        int both = 0;
        for (int i = 0; i < length(); i++) {
            both += one.start <= i && i < one.end && two.start <= i && i < two.end ? 1 : 0;
        }
        return both;
    }

    int covering(int index, int rank) {
        if (index < 0 || index >= length() || rank < 0) {
            return BAD_INDEX;
        }
        List<Note> there = new ArrayList<>(now.notes);
        there.removeIf(note -> !note.attached || index < note.start || index >= note.end);
        there.sort(Comparator.comparingInt(Note::start).thenComparingInt(note -> -note.end)
            .thenComparingInt(Note::number));
        return rank < there.size() ? there.get(rank).number : NONE;
    }

    int setThreshold(int then) {
        if (then < 0 || then > 108) {
            return BAD_VALUE;
        }
        int before = threshold;
        threshold = then;
        return before;
    }

    int save(int slot) {
        if (slot < 0 || slot > 1) {
            return BAD_INDEX;
        }
        slots[slot] = new Saved(now, threshold);
        return comments();
    }

    int restore(int slot) {
        if (slot < 0 || slot > 1) {
            return BAD_INDEX;
        }
        if (slots[slot] == null) {
            return NOT_POSSIBLE;
        }
        now = slots[slot].state;
        threshold = slots[slot].threshold;
        history.clear();
        return comments();
    }

    long checksum() {
        List<Integer> values = new ArrayList<>();
        values.add(length());
        now.document.chars().forEach(values::add);
        values.add(comments());
        for (Note note : now.notes) {
            values.addAll(List.of(note.number, note.attached ? 1 : 0, note.start, note.end, note.weight));
            (note.prefix + note.quote + note.suffix).chars().forEach(values::add);
            values.addAll(List.of(best(note.number, 0), best(note.number, 1), best(note.number, 2)));
        }
        long h = 61;
        for (int value : values) {
            h = 31 * h + value;
        }
        return h;
    }

    private List<Candidate> candidates(Note note) {
        List<Candidate> candidates = new ArrayList<>();
        int m = note.quote.length();
        for (int start = 0; start < length(); start++) {
            for (int many = Math.max(1, m - 3); many <= m + 3 && start + many <= length(); many++) {
                candidates.add(new Candidate(scoreOf(note, start, start + many), start, start + many));
            }
        }
        candidates.sort(BETTER);
        return candidates;
    }

    private int scoreOf(Note note, int from, int to) {
        String before = now.document.substring(0, from);
        String behind = now.document.substring(to);
        int a = note.prefix.length();
        while (!before.endsWith(note.prefix.substring(note.prefix.length() - a))) {
            a--;
        }
        int b = note.suffix.length();
        while (!behind.startsWith(note.suffix.substring(0, b))) {
            b--;
        }
        int edits = edits(note.quote, now.document.substring(from, to));
        return 60 - 10 * edits + 4 * a + 4 * b - Math.abs(from - note.start) / 5;
    }

    private static int edits(String one, String two) {
        int[][] table = new int[one.length() + 1][two.length() + 1];
        for (int i = 0; i <= one.length(); i++) {
            for (int j = 0; j <= two.length(); j++) {
                if (i == 0 || j == 0) {
                    table[i][j] = i + j;
                } else {
                    int exchanged = table[i - 1][j - 1] + (one.charAt(i - 1) == two.charAt(j - 1) ? 0 : 1);
                    table[i][j] = Math.min(exchanged, 1 + Math.min(table[i - 1][j], table[i][j - 1]));
                }
            }
        }
        return table[one.length()][two.length()];
    }
}
