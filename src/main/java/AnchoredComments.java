/**
 * A workbench for comments that are anchored in a document while it is edited.
 *
 * No call throws, and no call makes an object: all rows are made by the constructor.
 */
public final class AnchoredComments {
    public static final int BAD_INDEX = -1001;
    public static final int BAD_VALUE = -1002;
    public static final int NOT_POSSIBLE = -1003;
    public static final int FULL = -1004;
    public static final int NONE = -1005;
    public static final int ORPHAN = 0, ATTACHED = 1;

    private static final int FIRST_CODE = 32;
    private static final int LAST_CODE = 126;
    private static final int MOST_TYPED = 40;
    private static final int MOST_LETTERS = 120;
    private static final int MOST_COMMENTS = 10;
    private static final int MOST_QUOTED = 16;
    private static final int MOST_AROUND = 6;
    private static final int MOST_SCORED = 30;
    private static final int MOST_STATES = 6;
    private static final int MOST_THRESHOLD = 108;
    private static final int FIRST_THRESHOLD = 60;
    private static final int SLACK = 3;

    // no code of a letter, so a place outside a text is never like a letter
    private static final int NO_LETTER = -1;

    private final Text buffer;
    private final Page page;
    private final History history;
    private final Slot slot0;
    private final Slot slot1;
    private final Finder finder;
    private final Planner planner;
    private int threshold;

    public AnchoredComments() {
        buffer = new Text(MOST_TYPED);
        page = new Page();
        history = new History();
        slot0 = new Slot();
        slot1 = new Slot();
        finder = new Finder();
        planner = new Planner();
        threshold = FIRST_THRESHOLD;
    }

    // ---- buffer

    public int type(int letter) {
        if (letter < FIRST_CODE || letter > LAST_CODE) {
            return BAD_VALUE;
        }
        if (buffer.size >= MOST_TYPED) {
            return FULL;
        }
        buffer.append(letter);
        return buffer.size;
    }

    public int clearBuffer() {
        int before = buffer.size;
        buffer.empty();
        return before;
    }

    // ---- document

    public int load() {
        history.record(page);
        int before = page.document.size;
        page.replaceDocument(buffer);
        return before;
    }

    public int insert(int position) {
        if (!isPosition(position)) {
            return BAD_INDEX;
        }
        if (page.document.size + buffer.size > MOST_LETTERS) {
            return FULL;
        }
        history.record(page);
        page.putIn(position, buffer);
        return page.document.size;
    }

    public int delete(int position, int many) {
        if (!isPosition(position)) {
            return BAD_INDEX;
        }
        if (many < 0 || many > page.document.size - position) {
            return BAD_VALUE;
        }
        history.record(page);
        return page.cutOut(position, many);
    }

    // ---- comments

    public int comment(int from, int to) {
        if (!isPosition(from)) {
            return BAD_INDEX;
        }
        if (!isRange(from, to, MOST_QUOTED)) {
            return BAD_VALUE;
        }
        if (page.count >= MOST_COMMENTS) {
            return FULL;
        }
        history.record(page);
        return page.addNote(from, to);
    }

    public int remove(int comment) {
        int index = page.indexOf(comment);
        if (index < 0) {
            return BAD_INDEX;
        }
        history.record(page);
        page.drop(index);
        return page.count;
    }

    public int quoteAnew(int comment) {
        Note note = page.find(comment);
        if (note == null) {
            return BAD_INDEX;
        }
        if (note.kind == ORPHAN || note.end - note.start > MOST_QUOTED) {
            return NOT_POSSIBLE;
        }
        history.record(page);
        note.quoteFrom(page.document);
        return note.quote.size;
    }

    public int attach(int comment) {
        Note note = page.find(comment);
        if (note == null) {
            return BAD_INDEX;
        }
        if (note.kind == ATTACHED) {
            return NOT_POSSIBLE;
        }
        finder.search(note, page.document);
        // NONE as a score is below every threshold
        if (finder.bestScore < threshold) {
            return NONE;
        }
        history.record(page);
        note.attachTo(finder.bestStart, finder.bestEnd);
        return note.start;
    }

    public int attachAll() {
        if (planner.gather(page) == 0) {
            return NONE;
        }
        history.record(page);
        planner.plan(page.document, threshold, finder);
        return planner.carryOut();
    }

    public int merge() {
        if (!page.hasTwins()) {
            return NONE;
        }
        history.record(page);
        return page.mergeTwins();
    }

    // ---- history

    public int undo() {
        if (history.count == 0) {
            return NOT_POSSIBLE;
        }
        history.stepBack(page);
        return history.count;
    }

    // ---- what there is

    public int length() {
        return page.document.size;
    }

    public int letter(int index) {
        if (!isLetterIndex(index)) {
            return BAD_INDEX;
        }
        return page.document.at(index);
    }

    public int comments() {
        return page.count;
    }

    public int commentAt(int index) {
        if (index < 0 || index >= page.count || index >= page.notes.length) {
            return BAD_INDEX;
        }
        return page.notes[index].number;
    }

    public int state(int comment) {
        Note note = page.find(comment);
        return note == null ? BAD_INDEX : note.kind;
    }

    public int range(int comment, boolean end) {
        Note note = page.find(comment);
        if (note == null) {
            return BAD_INDEX;
        }
        return end ? note.end : note.start;
    }

    public int weight(int comment) {
        Note note = page.find(comment);
        return note == null ? BAD_INDEX : note.weight;
    }

    public int quoted(int comment, int part, int index) {
        Note note = page.find(comment);
        if (note == null) {
            return BAD_INDEX;
        }
        if (part < 0 || part > 2) {
            return BAD_VALUE;
        }
        Text text = part == 0 ? note.prefix : part == 1 ? note.quote : note.suffix;
        return index < 0 || index >= text.size ? NONE : text.at(index);
    }

    public int distance(int comment) {
        Note note = page.find(comment);
        if (note == null) {
            return BAD_INDEX;
        }
        if (note.kind == ORPHAN) {
            return NOT_POSSIBLE;
        }
        return finder.distanceTo(note, page.document, note.start, note.end);
    }

    public int score(int comment, int from, int to) {
        Note note = page.find(comment);
        if (note == null || !isPosition(from)) {
            return BAD_INDEX;
        }
        if (!isRange(from, to, MOST_SCORED)) {
            return BAD_VALUE;
        }
        int edits = finder.distanceTo(note, page.document, from, to);
        return note.scoreOf(edits, page.document, from, to);
    }

    public int best(int comment, int what) {
        Note note = page.find(comment);
        if (note == null) {
            return BAD_INDEX;
        }
        if (what < 0 || what > 2) {
            return BAD_VALUE;
        }
        finder.search(note, page.document);
        return what == 0 ? finder.bestScore : what == 1 ? finder.bestStart : finder.bestEnd;
    }

    public int overlap(int comment, int other) {
        Note one = page.find(comment);
        Note two = page.find(other);
        if (one == null || two == null) {
            return BAD_INDEX;
        }
        return Math.max(0, Math.min(one.end, two.end) - Math.max(one.start, two.start));
    }

    public int covering(int index, int rank) {
        if (!isLetterIndex(index) || rank < 0) {
            return BAD_INDEX;
        }
        return page.numberCovering(index, rank);
    }

    public int setThreshold(int threshold) {
        if (threshold < 0 || threshold > MOST_THRESHOLD) {
            return BAD_VALUE;
        }
        int before = this.threshold;
        this.threshold = threshold;
        return before;
    }

    // ---- slots, checksum

    public int save(int slot) {
        if (slot < 0 || slot > 1) {
            return BAD_INDEX;
        }
        Slot kept = slot == 0 ? slot0 : slot1;
        kept.used = true;
        kept.threshold = threshold;
        kept.page.become(page);
        return page.count;
    }

    public int restore(int slot) {
        if (slot < 0 || slot > 1) {
            return BAD_INDEX;
        }
        Slot kept = slot == 0 ? slot0 : slot1;
        if (!kept.used) {
            return NOT_POSSIBLE;
        }
        threshold = kept.threshold;
        page.become(kept.page);
        history.count = 0;
        return page.count;
    }

    public long checksum() {
        long sum = mix(61, page.document.size);
        sum = mixText(sum, page.document);
        sum = mix(sum, page.count);
        for (int i = 0; i < page.count && i < page.notes.length; i++) {
            sum = mixNote(sum, page.notes[i]);
        }
        return sum;
    }

    private long mixNote(long before, Note note) {
        long sum = mix(before, note.number);
        sum = mix(sum, note.kind);
        sum = mix(sum, note.start);
        sum = mix(sum, note.end);
        sum = mix(sum, note.weight);
        sum = mixText(sum, note.prefix);
        sum = mixText(sum, note.quote);
        sum = mixText(sum, note.suffix);
        finder.search(note, page.document);
        sum = mix(sum, finder.bestScore);
        sum = mix(sum, finder.bestStart);
        return mix(sum, finder.bestEnd);
    }

    private static long mixText(long before, Text text) {
        long sum = before;
        for (int i = 0; i < text.size; i++) {
            sum = mix(sum, text.at(i));
        }
        return sum;
    }

    private static long mix(long sum, int value) {
        return 31 * sum + value;
    }

    private boolean isPosition(int position) {
        return position >= 0 && position <= page.document.size;
    }

    private boolean isLetterIndex(int index) {
        return index >= 0 && index < page.document.size;
    }

    /** Whether [from, to) has 1 to most letters; from is known to be a position. */
    private boolean isRange(int from, int to, int most) {
        return to > from && to <= page.document.size && to - from <= most;
    }

    /** Some letters in a row of fixed room. */
    private static final class Text {
        private final int[] letters;
        private int size;

        Text(int room) {
            letters = new int[Math.max(0, room)];
            size = 0;
        }

        int at(int index) {
            return index >= 0 && index < size && index < letters.length ? letters[index] : NO_LETTER;
        }

        void empty() {
            size = 0;
        }

        void append(int letter) {
            if (size >= 0 && size < letters.length) {
                letters[size] = letter;
                size++;
            }
        }

        void become(Text other) {
            copyPart(other, 0, other.size);
        }

        void copyPart(Text other, int from, int to) {
            size = 0;
            for (int i = Math.max(0, from); i < to && i < other.size; i++) {
                append(other.at(i));
            }
        }

        void putLetters(int position, Text other) {
            int many = other.size;
            if (position < 0 || position > size || many < 0 || many > letters.length - size) {
                return;
            }
            for (int i = size - 1; i >= position; i--) {
                letters[i + many] = letters[i];
            }
            for (int i = 0; i < many; i++) {
                letters[position + i] = other.at(i);
            }
            size += many;
        }

        void cutLetters(int position, int many) {
            if (position < 0 || many < 0 || many > size - position) {
                return;
            }
            for (int i = position + many; i < size && i < letters.length; i++) {
                letters[i - many] = letters[i];
            }
            size -= many;
        }
    }

    /** A comment. */
    private static final class Note {
        private final Text prefix;
        private final Text quote;
        private final Text suffix;
        private int number;
        private int kind;
        private int start;
        private int end;
        private int weight;

        Note() {
            prefix = new Text(MOST_AROUND);
            quote = new Text(MOST_QUOTED);
            suffix = new Text(MOST_AROUND);
        }

        void become(Note other) {
            prefix.become(other.prefix);
            quote.become(other.quote);
            suffix.become(other.suffix);
            number = other.number;
            kind = other.kind;
            start = other.start;
            end = other.end;
            weight = other.weight;
        }

        void begin(int newNumber, int from, int to, Text document) {
            number = newNumber;
            weight = 1;
            attachTo(from, to);
            quoteFrom(document);
        }

        void attachTo(int from, int to) {
            start = from;
            end = to;
            kind = ATTACHED;
        }

        void quoteFrom(Text document) {
            prefix.copyPart(document, start - MOST_AROUND, start);
            quote.copyPart(document, start, end);
            suffix.copyPart(document, end, end + MOST_AROUND);
        }

        void moveForInsert(int position, int many) {
            if (start >= position) {
                start += many;
                end += many;
            } else if (end > position) {
                end += many;
            }
        }

        /** Tells whether the comment becomes an ORPHAN by it. */
        boolean moveForDelete(int position, int many) {
            start = boundAfterDelete(start, position, many);
            end = boundAfterDelete(end, position, many);
            if (kind == ORPHAN || start < end) {
                return false;
            }
            kind = ORPHAN;
            return true;
        }

        private static int boundAfterDelete(int bound, int position, int many) {
            return bound >= position + many ? bound - many : Math.min(bound, position);
        }

        void moveForReplacement(int length) {
            kind = ORPHAN;
            start = Math.min(start, length);
            end = Math.min(end, length);
        }

        boolean isTwinOf(Note other) {
            return kind == ATTACHED && other.kind == ATTACHED && start == other.start && end == other.end;
        }

        boolean covers(int index) {
            return kind == ATTACHED && start <= index && index < end;
        }

        /** In the order of covering(). */
        boolean standsBefore(Note other) {
            if (start != other.start) {
                return start < other.start;
            }
            return end != other.end ? end > other.end : number < other.number;
        }

        int scoreOf(int edits, Text document, int from, int to) {
            int around = likeBefore(document, from) + likeBehind(document, to);
            return 60 - 10 * edits + 4 * around - Math.abs(from - start) / 5;
        }

        private int likeBefore(Text document, int from) {
            int like = 0;
            while (like < prefix.size && prefix.at(prefix.size - 1 - like) == document.at(from - 1 - like)) {
                like++;
            }
            return like;
        }

        private int likeBehind(Text document, int to) {
            int like = 0;
            while (like < suffix.size && suffix.at(like) == document.at(to + like)) {
                like++;
            }
            return like;
        }
    }

    /** A document with its comments, in ascending order of their numbers. */
    private static final class Page {
        private final Text document;
        private final Note[] notes;
        private int count;
        private int next;

        Page() {
            document = new Text(MOST_LETTERS);
            notes = new Note[MOST_COMMENTS];
            for (int i = 0; i < notes.length; i++) {
                notes[i] = new Note();
            }
        }

        void become(Page other) {
            document.become(other.document);
            count = Math.min(other.count, notes.length);
            next = other.next;
            for (int i = 0; i < count && i < other.notes.length; i++) {
                notes[i].become(other.notes[i]);
            }
        }

        /** The index of the comment with this number, or -1. */
        int indexOf(int number) {
            for (int i = 0; i < count && i < notes.length; i++) {
                if (notes[i].number == number) {
                    return i;
                }
            }
            return -1;
        }

        Note find(int number) {
            int index = indexOf(number);
            return index >= 0 && index < notes.length ? notes[index] : null;
        }

        int addNote(int from, int to) {
            if (count < 0 || count >= notes.length) {
                return FULL;
            }
            int number = next;
            notes[count].begin(number, from, to, document);
            count++;
            next++;
            return number;
        }

        void drop(int index) {
            if (index < 0 || index >= count || count > notes.length) {
                return;
            }
            // the dropped object is kept behind the others, to be used again
            Note dropped = notes[index];
            for (int i = index + 1; i < count; i++) {
                notes[i - 1] = notes[i];
            }
            count--;
            notes[count] = dropped;
        }

        void replaceDocument(Text letters) {
            document.become(letters);
            for (int i = 0; i < count && i < notes.length; i++) {
                notes[i].moveForReplacement(document.size);
            }
        }

        void putIn(int position, Text letters) {
            document.putLetters(position, letters);
            for (int i = 0; i < count && i < notes.length; i++) {
                notes[i].moveForInsert(position, letters.size);
            }
        }

        /** Returns how many comments become ORPHANs. */
        int cutOut(int position, int many) {
            document.cutLetters(position, many);
            int orphaned = 0;
            for (int i = 0; i < count && i < notes.length; i++) {
                if (notes[i].moveForDelete(position, many)) {
                    orphaned++;
                }
            }
            return orphaned;
        }

        boolean hasTwins() {
            for (int i = 0; i < count && i < notes.length; i++) {
                if (firstTwin(i) >= 0) {
                    return true;
                }
            }
            return false;
        }

        int mergeTwins() {
            int removed = 0;
            for (int i = count - 1; i >= 0 && i < notes.length; i--) {
                int first = firstTwin(i);
                if (first >= 0 && first < notes.length) {
                    notes[first].weight += notes[i].weight;
                    drop(i);
                    removed++;
                }
            }
            return removed;
        }

        /** The lowest index below this one of a comment to merge with, or -1. */
        private int firstTwin(int index) {
            if (index < 0 || index >= notes.length) {
                return -1;
            }
            for (int i = 0; i < index; i++) {
                if (notes[i].isTwinOf(notes[index])) {
                    return i;
                }
            }
            return -1;
        }

        int numberCovering(int index, int rank) {
            for (int i = 0; i < count && i < notes.length; i++) {
                if (notes[i].covers(index) && rankOf(notes[i], index) == rank) {
                    return notes[i].number;
                }
            }
            return NONE;
        }

        /** How many comments that cover the letter come before this one. */
        private int rankOf(Note note, int index) {
            int rank = 0;
            for (int i = 0; i < count && i < notes.length; i++) {
                if (notes[i].covers(index) && notes[i].standsBefore(note)) {
                    rank++;
                }
            }
            return rank;
        }
    }

    /** The latest states, the oldest one first. */
    private static final class History {
        private final Page[] pages;
        private int count;

        History() {
            pages = new Page[MOST_STATES];
            for (int i = 0; i < pages.length; i++) {
                pages[i] = new Page();
            }
        }

        void record(Page page) {
            if (count >= pages.length) {
                dropOldest();
            }
            if (count >= 0 && count < pages.length) {
                pages[count].become(page);
                count++;
            }
        }

        private void dropOldest() {
            // the oldest page goes behind the others, to be used again
            for (int i = 1; i < pages.length; i++) {
                Page oldest = pages[i - 1];
                pages[i - 1] = pages[i];
                pages[i] = oldest;
            }
            count = pages.length - 1;
        }

        void stepBack(Page page) {
            if (count > 0 && count <= pages.length) {
                count--;
                page.become(pages[count]);
            }
        }
    }

    /** What save() keeps. */
    private static final class Slot {
        private final Page page;
        private int threshold;
        private boolean used;

        Slot() {
            page = new Page();
        }
    }

    /** Finds the best candidates of a comment. */
    private static final class Finder {
        // row[j]: the edit distance of the first j letters of the quote and the letters taken
        private final int[] row;
        private int bestScore;
        private int bestStart;
        private int bestEnd;
        private int endHere;

        Finder() {
            row = new int[MOST_QUOTED + 1];
        }

        int distanceTo(Note note, Text document, int from, int to) {
            beginRow();
            for (int i = from; i < to; i++) {
                takeLetter(note.quote, document.at(i));
            }
            return endOfRow(note.quote);
        }

        /** Leaves the best range in bestScore, bestStart and bestEnd; all are NONE if there is none. */
        void search(Note note, Text document) {
            bestScore = NONE;
            bestStart = NONE;
            bestEnd = NONE;
            for (int start = 0; start < document.size; start++) {
                int score = searchAt(note, document, start);
                if (score > bestScore) {
                    bestScore = score;
                    bestStart = start;
                    bestEnd = endHere;
                }
            }
        }

        /**
         * The greatest score of the candidates with this start, or NONE; leaves the end in endHere.
         * The lengths come one after another, so one row serves them all.
         */
        int searchAt(Note note, Text document, int start) {
            Text quote = note.quote;
            int shortest = Math.max(1, quote.size - SLACK);
            int longest = Math.min(quote.size + SLACK, document.size - start);
            int greatest = NONE;
            endHere = NONE;
            beginRow();
            for (int many = 1; many <= longest; many++) {
                int end = start + many;
                takeLetter(quote, document.at(end - 1));
                if (many >= shortest) {
                    int score = note.scoreOf(endOfRow(quote), document, start, end);
                    if (score > greatest) {
                        greatest = score;
                        endHere = end;
                    }
                }
            }
            return greatest;
        }

        private void beginRow() {
            for (int j = 0; j < row.length; j++) {
                row[j] = j;
            }
        }

        // the dearest loop of all, so it looks into the quote's row itself
        private void takeLetter(Text quote, int letter) {
            int[] letters = quote.letters;
            int last = Math.min(quote.size, Math.min(letters.length, row.length - 1));
            if (last < 0) {
                return;
            }
            int diagonal = row[0];
            int left = diagonal + 1;
            row[0] = left;
            for (int j = 1; j <= last; j++) {
                int above = row[j];
                int exchanged = letters[j - 1] == letter ? diagonal : diagonal + 1;
                left = Math.min(exchanged, 1 + Math.min(above, left));
                row[j] = left;
                diagonal = above;
            }
        }

        private int endOfRow(Text quote) {
            return quote.size >= 0 && quote.size < row.length ? row[quote.size] : 0;
        }
    }

    /** What one ORPHAN can get at each start, and the greatest sums from it on. */
    private static final class Choices {
        private final int[] scores;
        private final int[] ends;
        // sums[p]: of this ORPHAN and those behind it, if none starts before p
        private final int[] sums;
        private int size;

        Choices() {
            scores = new int[MOST_LETTERS];
            ends = new int[MOST_LETTERS];
            sums = new int[MOST_LETTERS + 1];
        }

        void weigh(Note orphan, Text document, int threshold, Finder finder) {
            size = Math.min(document.size, Math.min(scores.length, ends.length));
            for (int start = 0; start < size; start++) {
                int score = finder.searchAt(orphan, document, start);
                scores[start] = score < threshold ? NONE : score;
                ends[start] = finder.endHere;
            }
        }

        /** The choices behind the last ORPHAN. */
        void beNothing() {
            size = 0;
            for (int i = 0; i < sums.length; i++) {
                sums[i] = 0;
            }
        }

        void addUp(Choices behind) {
            int greatest = 0;
            for (int start = sums.length - 1; start >= 0; start--) {
                greatest = Math.max(greatest, behind.sumFrom(start));
                if (start < size && start < scores.length && scores[start] != NONE) {
                    greatest = Math.max(greatest, scores[start] + behind.sumFrom(start));
                }
                sums[start] = greatest;
            }
        }

        int sumFrom(int start) {
            return start >= 0 && start < sums.length ? sums[start] : 0;
        }

        int endAt(int start) {
            return start >= 0 && start < ends.length ? ends[start] : NONE;
        }

        /** The start that is due, at least from, or NONE if the ORPHAN gets nothing. */
        int choose(int from, Choices behind) {
            int chosen = NONE;
            int greatest = NONE;
            for (int start = Math.max(0, from); start < size && start < scores.length; start++) {
                int score = scores[start];
                if (score > greatest && score + behind.sumFrom(start) == sumFrom(from)) {
                    greatest = score;
                    chosen = start;
                }
            }
            return chosen;
        }
    }

    /** Attaches all ORPHANs together. */
    private static final class Planner {
        private final Note[] orphans;
        // one more than there can be ORPHANs, for what is behind the last one
        private final Choices[] choices;
        private int count;

        Planner() {
            orphans = new Note[MOST_COMMENTS];
            choices = new Choices[MOST_COMMENTS + 1];
            Note nobody = new Note();
            for (int i = 0; i < orphans.length; i++) {
                orphans[i] = nobody;
            }
            for (int i = 0; i < choices.length; i++) {
                choices[i] = new Choices();
            }
        }

        /** Takes the ORPHANs in their order; returns how many there are. */
        int gather(Page page) {
            count = 0;
            for (int i = 0; i < page.count && i < page.notes.length; i++) {
                if (page.notes[i].kind == ORPHAN) {
                    takeIn(page.notes[i]);
                }
            }
            return count;
        }

        private void takeIn(Note orphan) {
            if (count < 0 || count >= orphans.length) {
                return;
            }
            int place = count;
            while (place > 0 && orphans[place - 1].start > orphan.start) {
                orphans[place] = orphans[place - 1];
                place--;
            }
            orphans[place] = orphan;
            count++;
        }

        void plan(Text document, int threshold, Finder finder) {
            if (count < 0 || count >= choices.length) {
                return;
            }
            choices[count].beNothing();
            for (int i = count - 1; i >= 0 && i < orphans.length; i--) {
                choices[i].weigh(orphans[i], document, threshold, finder);
                choices[i].addUp(choices[i + 1]);
            }
        }

        /** Attaches as planned; returns how many are attached. */
        int carryOut() {
            int attached = 0;
            int from = 0;
            for (int i = 0; i < count && i < orphans.length && i + 1 < choices.length; i++) {
                int start = choices[i].choose(from, choices[i + 1]);
                if (start != NONE) {
                    orphans[i].attachTo(start, choices[i].endAt(start));
                    from = start;
                    attached++;
                }
            }
            return attached;
        }
    }
}
