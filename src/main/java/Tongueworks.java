import java.util.NoSuchElementException;

/** A bench for translators; ../shared/DOC.md says what each call does. */
public final class Tongueworks {
    private static final int MOST_CODES = 80;
    private static final int MOST_TARGET = 24;
    private static final int MOST_TOGETHER = MOST_CODES * MOST_TARGET;
    private static final int MOST_ENTRIES = 30;
    private static final int HANDS = 4;
    private static final int NOBODY = -1;
    private static final int NOTHING = -1;

    private static final int END = 0;
    private static final int FIRST_NUMBER = 80;
    private static final int FIRST_OPENING = 100;
    private static final int FIRST_CLOSING = 200;
    private static final int FIRST_PIECE = 300;
    private static final int NUMBERS = 20;
    private static final int TAGS = 10;

    private static final char NEW = 'n';
    private static final char DRAFT = 'd';
    private static final char TRANSLATED = 't';
    private static final char APPROVED = 'a';

    private static final int FULL_LIKENESS = 100;
    private static final int LEAST_LIKENESS = 50;

    private final Book book = new Book();
    private final Memory memory = new Memory();
    private final Terms terms = new Terms();
    private final Tagger tagger = new Tagger();
    private final Tally tally = new Tally();
    private final Row whole = new Row(MOST_TOGETHER);

    public Tongueworks() {
    }

    // ---- files and segments

    public int begin() throws IllegalStateException {
        if (book.isBegun()) {
            throw new IllegalStateException("a version was begun and is not taken");
        }
        return book.beginDraft();
    }

    public int add(int code) throws IllegalArgumentException, IllegalStateException {
        if (!Codes.isCode(code)) {
            throw new IllegalArgumentException("no such code");
        }
        if (!book.isBegun()) {
            throw new IllegalStateException("no version was begun");
        }
        if (!book.putInDraft(code)) {
            throw new IllegalStateException("the version has 80 codes");
        }
        return book.draftCount();
    }

    public int take() throws IllegalStateException {
        if (!book.isBegun()) {
            throw new IllegalStateException("no version was begun");
        }
        book.takeDraft();
        return book.cutAnew();
    }

    public boolean setException(int word, boolean isException) throws IllegalArgumentException {
        checkWord(word);
        boolean was = book.isException(word);
        if (was != isException) {
            book.markException(word, isException);
            book.cutAnew();
        }
        return was;
    }

    public int cutAt(int index, boolean isSplit) throws IndexOutOfBoundsException, IllegalArgumentException {
        if (index < 0 || index >= book.fileCount() - 1) {
            throw new IndexOutOfBoundsException("no such code, or none behind it");
        }
        if (Codes.isPiece(book.fileAt(index)) || Codes.isPiece(book.fileAt(index + 1))) {
            throw new IllegalArgumentException("a piece of the skeleton");
        }
        book.markCut(index, isSplit);
        book.cutAnew();
        return book.count();
    }

    public int segments() {
        return book.count();
    }

    public int length(int segment) throws IndexOutOfBoundsException {
        return reach(segment).source().count();
    }

    public int sourceAt(int segment, int index) throws IndexOutOfBoundsException {
        return codeOf(reach(segment).source(), index);
    }

    public char stateOf(int segment) throws IndexOutOfBoundsException {
        return reach(segment).state();
    }

    // ---- hands and targets

    public int hold(int hand, int segment) throws IndexOutOfBoundsException, IllegalStateException {
        Segment found = reachBy(hand, segment);
        if (!found.isFree() && !found.isHeldBy(hand)) {
            throw new IllegalStateException("another hand holds it");
        }
        found.giveTo(hand);
        return book.countHeldBy(hand);
    }

    public int letGo(int hand, int segment) throws IndexOutOfBoundsException, IllegalStateException {
        held(hand, segment).giveTo(NOBODY);
        return book.countHeldBy(hand);
    }

    public int write(int hand, int segment, int code)
            throws IndexOutOfBoundsException, IllegalArgumentException, IllegalStateException {
        Segment found = reachBy(hand, segment);
        if (!Codes.isCode(code) || Codes.isPiece(code)) {
            throw new IllegalArgumentException("no such code, or one of the skeleton");
        }
        if (!found.isHeldBy(hand) || found.target().count() >= MOST_TARGET) {
            throw new IllegalStateException("not held by this hand, or 24 codes");
        }
        found.target().put(code);
        found.setTargetState(DRAFT);
        return found.target().count();
    }

    public int copy(int hand, int segment) throws IndexOutOfBoundsException, IllegalStateException {
        Segment found = held(hand, segment);
        found.translate(found.source(), DRAFT);
        return found.target().count();
    }

    public int clear(int hand, int segment) throws IndexOutOfBoundsException, IllegalStateException {
        Segment found = held(hand, segment);
        int before = found.targetCount();
        found.dropTarget();
        return before;
    }

    public int mend(int hand, int segment) throws IndexOutOfBoundsException, IllegalStateException {
        Segment found = heldWithTarget(hand, segment);
        if (tagger.repair(found.target(), found.source())) {
            found.setTargetState(DRAFT);
        }
        return found.target().count();
    }

    public int fill(int hand, int segment)
            throws IndexOutOfBoundsException, IllegalStateException, NoSuchElementException {
        Segment found = held(hand, segment);
        Row ahead = book.sourceOf(segment - 1);
        int best = memory.best(found.source(), ahead);
        Entry match = memory.entryAt(best);
        if (match == null) {
            throw new NoSuchElementException("no match");
        }
        int value = memory.valueAt(best, found.source(), ahead);
        found.translate(match.target(), value >= FULL_LIKENESS ? TRANSLATED : DRAFT);
        Fitter.fitNumbers(found.target(), match.source(), found.source());
        Fitter.fitTerm(found.target(), match.source(), found.source(), terms);
        tagger.repair(found.target(), found.source());
        return value;
    }

    public int approve(int hand, int segment)
            throws IndexOutOfBoundsException, IllegalStateException, UnsupportedOperationException {
        Segment found = heldWithTarget(hand, segment);
        if (!hasSoundTags(found)) {
            throw new UnsupportedOperationException("not well tagged, or not with the tags of its source");
        }
        found.setTargetState(APPROVED);
        memory.remember(found.source(), found.target(), book.sourceOf(segment - 1));
        return book.spread(found);
    }

    public boolean setApart(int segment, boolean isApart) throws IndexOutOfBoundsException {
        Segment found = reach(segment);
        boolean before = found.isApart();
        found.keepApart(isApart);
        return before;
    }

    public int targetLength(int segment) throws IndexOutOfBoundsException {
        return reach(segment).targetCount();
    }

    public int targetAt(int segment, int index) throws IndexOutOfBoundsException {
        return codeOf(reach(segment).target(), index);
    }

    public int faults(int segment) throws IndexOutOfBoundsException, NoSuchElementException {
        Segment found = reach(segment);
        if (!found.hasTarget()) {
            throw new NoSuchElementException("no target");
        }
        return faultsOf(found.source(), found.target());
    }

    // ---- memory and terms

    public int likeness(int segment, int other) throws IndexOutOfBoundsException {
        Segment left = reach(segment);
        Segment right = reach(other);
        return memory.likenessOf(left.source(), right.source());
    }

    public int entries() {
        return memory.count();
    }

    public int ageOf(int entry) throws IndexOutOfBoundsException {
        Entry found = memory.entryAt(entry);
        if (found == null) {
            throw new IndexOutOfBoundsException("no such entry");
        }
        return found.age();
    }

    public int valueFor(int segment, int entry) throws IndexOutOfBoundsException {
        Segment found = reach(segment);
        if (memory.entryAt(entry) == null) {
            throw new IndexOutOfBoundsException("no such entry");
        }
        return memory.valueAt(entry, found.source(), book.sourceOf(segment - 1));
    }

    public int bestFor(int segment) throws IndexOutOfBoundsException, NoSuchElementException {
        Segment found = reach(segment);
        int best = memory.best(found.source(), book.sourceOf(segment - 1));
        if (best == NOTHING) {
            throw new NoSuchElementException("no match");
        }
        return best;
    }

    public int bestAnew(int segment) throws IndexOutOfBoundsException, NoSuchElementException {
        Segment found = reach(segment);
        int best = memory.bestOneByOne(found.source(), book.sourceOf(segment - 1));
        if (best == NOTHING) {
            throw new NoSuchElementException("no match");
        }
        return best;
    }

    public int want(int word, int wanted) throws IllegalArgumentException {
        checkWord(word);
        if (wanted != 0) {
            checkWord(wanted);
        }
        return terms.changeWanted(word, wanted);
    }

    public boolean forbid(int word, boolean isForbidden) throws IllegalArgumentException {
        checkWord(word);
        return terms.changeForbidden(word, isForbidden);
    }

    // ---- files put together, and figures

    public int together() {
        book.putTogether(whole, false);
        return whole.count();
    }

    public int togetherAt(int index) throws IndexOutOfBoundsException {
        book.putTogether(whole, false);
        return codeOf(whole, index);
    }

    public long sum() {
        book.putTogether(whole, false);
        long sum = 7;
        for (int i = 0; i < whole.count(); i++) {
            sum = 31 * sum + whole.at(i);
        }
        return sum;
    }

    public float approvedShare() throws ArithmeticException {
        int all = book.count();
        if (all == 0) {
            throw new ArithmeticException("no segments");
        }
        return (float) book.countApproved() / (float) all;
    }

    public double meanValue() throws ArithmeticException {
        int all = book.count();
        if (all == 0) {
            throw new ArithmeticException("no segments");
        }
        int values = 0;
        for (int i = 0; i < all; i++) {
            Row source = book.sourceOf(i);
            Row ahead = book.sourceOf(i - 1);
            values += memory.valueAt(memory.best(source, ahead), source, ahead);
        }
        return (double) values / (double) all;
    }

    public boolean isSound() {
        int all = book.count();
        for (int i = 0; i < all; i++) {
            Row source = book.sourceOf(i);
            Row ahead = book.sourceOf(i - 1);
            if (memory.best(source, ahead) != memory.bestOneByOne(source, ahead) || !isSoundIfApproved(i)) {
                return false;
            }
        }
        book.putTogether(whole, true);
        return book.isFile(whole);
    }

    // ---- what the calls share

    private static void checkWord(int word) {
        if (!Codes.isWord(word)) {
            throw new IllegalArgumentException("no such word");
        }
    }

    private static int codeOf(Row row, int index) {
        if (index < 0 || index >= row.count()) {
            throw new IndexOutOfBoundsException("no such code");
        }
        return row.at(index);
    }

    private Segment reach(int segment) {
        Segment found = book.segmentAt(segment);
        if (found == null) {
            throw new IndexOutOfBoundsException("no such segment");
        }
        return found;
    }

    private Segment reachBy(int hand, int segment) {
        if (hand < 0 || hand >= HANDS) {
            throw new IndexOutOfBoundsException("no such hand");
        }
        return reach(segment);
    }

    private Segment held(int hand, int segment) {
        Segment found = reachBy(hand, segment);
        if (!found.isHeldBy(hand)) {
            throw new IllegalStateException("not held by this hand");
        }
        return found;
    }

    private Segment heldWithTarget(int hand, int segment) {
        Segment found = held(hand, segment);
        if (!found.hasTarget()) {
            throw new IllegalStateException("no target");
        }
        return found;
    }

    private boolean hasSoundTags(Segment segment) {
        return tagger.isWellTagged(segment.target())
                && tally.hasSameTags(segment.target(), segment.source());
    }

    private int faultsOf(Row source, Row target) {
        int faults = tagger.isWellTagged(target) ? 0 : 1;
        faults += tally.hasSameTags(target, source) ? 0 : 2;
        faults += tally.hasSameNumbers(target, source) ? 0 : 4;
        faults += terms.hasForbidden(target) ? 8 : 0;
        faults += terms.lacksWanted(target, source) ? 16 : 0;
        faults += target.count() > 2 * source.count() + 2 ? 32 : 0;
        faults += (target.last() == END) != (source.last() == END) ? 64 : 0;
        return faults;
    }

    private boolean isSoundIfApproved(int segment) {
        Segment found = book.segmentAt(segment);
        return found != null && (found.state() != APPROVED || hasSoundTags(found));
    }

    /** Tells what a code is. */
    private static final class Codes {
        static boolean isWord(int code) {
            return code > END && code < FIRST_NUMBER;
        }

        static boolean isNumber(int code) {
            return code >= FIRST_NUMBER && code < FIRST_NUMBER + NUMBERS;
        }

        static boolean isOpening(int code) {
            return code >= FIRST_OPENING && code < FIRST_OPENING + TAGS;
        }

        static boolean isClosing(int code) {
            return code >= FIRST_CLOSING && code < FIRST_CLOSING + TAGS;
        }

        static boolean isPiece(int code) {
            return code >= FIRST_PIECE && code < FIRST_PIECE + 10;
        }

        static boolean isCode(int code) {
            return code == END || isWord(code) || isNumber(code)
                    || isOpening(code) || isClosing(code) || isPiece(code);
        }
    }

    /** A row of codes in room of its own; one that is made without room is a window on another row. */
    private static final class Row {
        private final int most;
        private int[] room;
        private int start;
        private int size;

        Row(int most) {
            this.most = most < 0 ? 0 : most;
            this.room = new int[this.most];
        }

        int count() {
            return size;
        }

        int at(int index) {
            int place = start + index;
            if (index < 0 || index >= size || place < 0 || place >= room.length) {
                return NOTHING;
            }
            return room[place];
        }

        int last() {
            return at(size - 1);
        }

        boolean put(int code) {
            if (size < 0 || size >= most || size >= room.length) {
                return false;
            }
            room[size] = code;
            size++;
            return true;
        }

        void change(int index, int code) {
            if (index >= 0 && index < size && index < most && index < room.length) {
                room[index] = code;
            }
        }

        void dropLast() {
            if (size > 0) {
                size--;
            }
        }

        void dropAll() {
            size = 0;
        }

        void append(Row other) {
            int others = other.size;
            for (int i = 0; i < others; i++) {
                put(other.at(i));
            }
        }

        void become(Row other) {
            size = 0;
            append(other);
        }

        void lookAt(Row other, int from, int codes) {
            room = other.room;
            start = from;
            size = codes;
        }

        boolean isLike(Row other) {
            if (size != other.size) {
                return false;
            }
            for (int i = 0; i < size; i++) {
                if (at(i) != other.at(i)) {
                    return false;
                }
            }
            return true;
        }

        boolean has(int code) {
            for (int i = 0; i < size; i++) {
                if (at(i) == code) {
                    return true;
                }
            }
            return false;
        }
    }

    /** A segment of the file. */
    private static final class Segment {
        private final Row source = new Row(0);
        private final Row target = new Row(MOST_TARGET);
        private boolean hasTarget;
        private boolean isApart;
        private char state = NEW;
        private int hand = NOBODY;
        private int from;

        void startAnew(Row file, int first, int codes) {
            from = first;
            source.lookAt(file, first, codes);
            dropTarget();
            isApart = false;
            hand = NOBODY;
        }

        void keepWhatHad(Segment old) {
            target.become(old.target);
            hasTarget = old.hasTarget;
            state = old.state;
            hand = old.hand;
        }

        void translate(Row codes, char next) {
            target.become(codes);
            setTargetState(next);
        }

        void setTargetState(char next) {
            hasTarget = true;
            state = next;
        }

        void dropTarget() {
            target.dropAll();
            hasTarget = false;
            state = NEW;
        }

        void giveTo(int next) {
            hand = next;
        }

        void keepApart(boolean apart) {
            isApart = apart;
        }

        int from() {
            return from;
        }

        Row source() {
            return source;
        }

        Row target() {
            return target;
        }

        boolean hasTarget() {
            return hasTarget;
        }

        int targetCount() {
            return hasTarget ? target.count() : NOTHING;
        }

        char state() {
            return state;
        }

        boolean isApart() {
            return isApart;
        }

        boolean isFree() {
            return hand == NOBODY;
        }

        boolean isHeldBy(int who) {
            return hand == who;
        }

        boolean follows(Segment other) {
            return isFree() && state != APPROVED && !isApart && source.isLike(other.source);
        }
    }

    /** The file, the version that was begun, and the segments of the file. */
    private static final class Book {
        private static final int NO_CUT = 0;
        private static final int SPLIT = 1;
        private static final int JOINED = 2;
        private static final int WIDTH = MOST_CODES;

        private final Row none = new Row(0);
        private final boolean[] exceptions = new boolean[FIRST_NUMBER];
        private final int[] cuts = new int[MOST_CODES];
        private final int[] common = new int[MOST_CODES * WIDTH];
        private Row file = new Row(MOST_CODES);
        private Row draft = new Row(MOST_CODES);
        private Segment[] now = new Segment[MOST_CODES];
        private Segment[] before = new Segment[MOST_CODES];
        private int nowCount;
        private int beforeCount;
        private int taken;
        private boolean begun;

        Book() {
            for (int i = 0; i < MOST_CODES; i++) {
                now[i] = new Segment();
                before[i] = new Segment();
            }
        }

        boolean isBegun() {
            return begun;
        }

        int beginDraft() {
            begun = true;
            draft.dropAll();
            return taken;
        }

        boolean putInDraft(int code) {
            return draft.put(code);
        }

        int draftCount() {
            return draft.count();
        }

        void takeDraft() {
            // the old file stays in the other row, as the old segments look at it until they are matched
            Row old = file;
            file = draft;
            draft = old;
            begun = false;
            taken++;
            for (int i = 0; i < cuts.length; i++) {
                cuts[i] = NO_CUT;
            }
        }

        boolean isException(int code) {
            return code >= 0 && code < exceptions.length && exceptions[code];
        }

        void markException(int word, boolean isException) {
            if (word >= 0 && word < exceptions.length) {
                exceptions[word] = isException;
            }
        }

        void markCut(int index, boolean isSplit) {
            if (index >= 0 && index < cuts.length) {
                cuts[index] = isSplit ? SPLIT : JOINED;
            }
        }

        int fileCount() {
            return file.count();
        }

        int fileAt(int index) {
            return file.at(index);
        }

        int count() {
            return nowCount;
        }

        Segment segmentAt(int index) {
            return index >= 0 && index < nowCount && index < now.length ? now[index] : null;
        }

        /** A source has one code at least, so an empty row can tell that there is none. */
        Row sourceOf(int index) {
            Segment segment = segmentAt(index);
            return segment == null ? none : segment.source();
        }

        int countHeldBy(int hand) {
            int held = 0;
            for (int i = 0; i < nowCount; i++) {
                Segment segment = segmentAt(i);
                if (segment != null && segment.isHeldBy(hand)) {
                    held++;
                }
            }
            return held;
        }

        int countApproved() {
            int approved = 0;
            for (int i = 0; i < nowCount; i++) {
                Segment segment = segmentAt(i);
                if (segment != null && segment.state() == APPROVED) {
                    approved++;
                }
            }
            return approved;
        }

        int spread(Segment approved) {
            int followers = 0;
            for (int i = 0; i < nowCount; i++) {
                Segment other = segmentAt(i);
                if (other != null && other != approved && other.follows(approved)) {
                    other.translate(approved.target(), TRANSLATED);
                    followers++;
                }
            }
            return followers;
        }

        void putTogether(Row into, boolean ofSources) {
            into.dropAll();
            int next = 0;
            int codes = file.count();
            for (int i = 0; i < codes; i++) {
                Segment segment = segmentAt(next);
                if (Codes.isPiece(file.at(i))) {
                    into.put(file.at(i));
                } else if (segment != null && segment.from() == i) {
                    into.append(ofSources || !segment.hasTarget() ? segment.source() : segment.target());
                    next++;
                }
            }
        }

        boolean isFile(Row row) {
            return row.isLike(file);
        }

        /** Tells how many segments have kept what they had. */
        int cutAnew() {
            Segment[] old = now;
            now = before;
            before = old;
            beforeCount = nowCount;
            cutFile();
            return match();
        }

        private void cutFile() {
            nowCount = 0;
            int first = 0;
            int codes = file.count();
            for (int i = 0; i < codes; i++) {
                if (Codes.isPiece(file.at(i))) {
                    first = i + 1;
                } else if (isCutBehind(i)) {
                    startSegment(first, i + 1 - first);
                    first = i + 1;
                }
            }
        }

        private void startSegment(int first, int codes) {
            Segment segment = nowCount >= 0 && nowCount < now.length ? now[nowCount] : null;
            if (segment != null) {
                segment.startAnew(file, first, codes);
                nowCount++;
            }
        }

        private boolean isCutBehind(int index) {
            if (index + 1 >= file.count() || Codes.isPiece(file.at(index + 1))) {
                return true;
            }
            int cut = index >= 0 && index < cuts.length ? cuts[index] : NO_CUT;
            if (cut != NO_CUT) {
                return cut == SPLIT;
            }
            return file.at(index) == END && isCutByRule(file.at(index - 1));
        }

        private boolean isCutByRule(int ahead) {
            boolean isInRow = ahead != NOTHING && !Codes.isPiece(ahead);
            return isInRow && !isException(ahead);
        }

        /** Taking the first old one that is like leaves most to the next, so no other choice is better. */
        private int match() {
            findCommon();
            int kept = 0;
            int old = 0;
            for (int i = 0; i < nowCount; i++) {
                int like = firstLike(i, old);
                Segment fresh = segmentAt(i);
                Segment past = oldAt(like);
                if (fresh == null || past == null) {
                    continue;
                }
                if (1 + commonFrom(i + 1, like + 1) == commonFrom(i, old)) {
                    fresh.keepWhatHad(past);
                    old = like + 1;
                    kept++;
                }
            }
            return kept;
        }

        private int firstLike(int index, int old) {
            for (int j = old; j < beforeCount; j++) {
                if (areLike(index, j)) {
                    return j;
                }
            }
            return NOTHING;
        }

        private boolean areLike(int index, int old) {
            Segment fresh = segmentAt(index);
            Segment past = oldAt(old);
            return fresh != null && past != null && fresh.source().isLike(past.source());
        }

        private Segment oldAt(int index) {
            return index >= 0 && index < beforeCount && index < before.length ? before[index] : null;
        }

        private void findCommon() {
            for (int i = nowCount - 1; i >= 0; i--) {
                for (int j = beforeCount - 1; j >= 0; j--) {
                    int most = areLike(i, j) ? 1 + commonFrom(i + 1, j + 1)
                            : Math.max(commonFrom(i + 1, j), commonFrom(i, j + 1));
                    int place = i * WIDTH + j;
                    if (place >= 0 && place < common.length) {
                        common[place] = most;
                    }
                }
            }
        }

        private int commonFrom(int index, int old) {
            int place = index * WIDTH + old;
            if (index >= nowCount || old >= beforeCount || place < 0 || place >= common.length) {
                return 0;
            }
            return common[place];
        }
    }

    /** An entry of the memory. */
    private static final class Entry {
        private final Row source = new Row(MOST_CODES);
        private final Row target = new Row(MOST_TARGET);
        private final Row ahead = new Row(MOST_CODES);
        private int age;

        void startAnew(Row ofSource, Row ofAhead) {
            source.become(ofSource);
            ahead.become(ofAhead);
        }

        void renew(Row ofTarget, int next) {
            target.become(ofTarget);
            age = next;
        }

        Row source() {
            return source;
        }

        Row target() {
            return target;
        }

        int age() {
            return age;
        }

        boolean isFor(Row otherSource, Row otherAhead) {
            return source.isLike(otherSource) && ahead.isLike(otherAhead);
        }

        boolean isBehind(Row otherAhead) {
            return ahead.isLike(otherAhead);
        }
    }

    /** The entries that are kept, and what they are worth for a source. */
    private static final class Memory {
        private final Entry[] kept = new Entry[MOST_ENTRIES];
        private final int[] costs = new int[MOST_CODES + 1];
        private final Tally tally = new Tally();
        private int count;
        private int made;

        Memory() {
            for (int i = 0; i < MOST_ENTRIES; i++) {
                kept[i] = new Entry();
            }
        }

        int count() {
            return count;
        }

        Entry entryAt(int index) {
            return index >= 0 && index < count && index < kept.length ? kept[index] : null;
        }

        void remember(Row source, Row target, Row ahead) {
            Entry entry = entryFor(source, ahead);
            if (entry == null) {
                entry = freeEntry();
            }
            if (entry != null) {
                entry.startAnew(source, ahead);
                entry.renew(target, made);
                made++;
            }
        }

        private Entry entryFor(Row source, Row ahead) {
            for (int i = 0; i < count; i++) {
                Entry entry = entryAt(i);
                if (entry != null && entry.isFor(source, ahead)) {
                    return entry;
                }
            }
            return null;
        }

        /** Makes room at the end, for the last number. */
        private Entry freeEntry() {
            if (count < kept.length) {
                count++;
            } else {
                moveOldestToEnd();
            }
            return entryAt(count - 1);
        }

        private void moveOldestToEnd() {
            int oldest = 0;
            for (int i = 1; i < kept.length; i++) {
                if (isOlder(entryAt(i), entryAt(oldest))) {
                    oldest = i;
                }
            }
            for (int i = oldest; i < kept.length - 1; i++) {
                Entry gone = kept[i];
                kept[i] = kept[i + 1];
                kept[i + 1] = gone;
            }
        }

        private static boolean isOlder(Entry entry, Entry other) {
            return entry != null && other != null && entry.age() < other.age();
        }

        /** Passes over entries that cannot win by their number of codes alone, and so compares few. */
        int best(Row source, Row ahead) {
            int best = NOTHING;
            int bestValue = 0;
            for (int i = 0; i < count; i++) {
                Entry entry = entryAt(i);
                if (entry == null || mostLikeness(entry.source(), source) + 1 < bestValue) {
                    continue;
                }
                int value = valueAt(i, source, ahead);
                if (isBetter(i, value, best, bestValue)) {
                    best = i;
                    bestValue = value;
                }
            }
            return best;
        }

        int bestOneByOne(Row source, Row ahead) {
            int best = NOTHING;
            int bestValue = 0;
            for (int i = 0; i < count; i++) {
                int value = valueAt(i, source, ahead);
                if (isBetter(i, value, best, bestValue)) {
                    best = i;
                    bestValue = value;
                }
            }
            return best;
        }

        private boolean isBetter(int index, int value, int best, int bestValue) {
            if (value != bestValue) {
                return value > bestValue;
            }
            Entry entry = entryAt(index);
            Entry other = entryAt(best);
            return isOlder(other, entry);
        }

        int valueAt(int index, Row source, Row ahead) {
            Entry entry = entryAt(index);
            if (entry == null || mostLikeness(entry.source(), source) < LEAST_LIKENESS) {
                return 0;
            }
            int likeness = likenessOf(entry.source(), source);
            if (likeness < LEAST_LIKENESS) {
                return 0;
            }
            int value = likeness;
            if (!tally.hasSameTags(entry.source(), source)) {
                value -= 10;
            }
            if (likeness == FULL_LIKENESS && entry.isBehind(ahead)) {
                value++;
            }
            return value;
        }

        int likenessOf(Row left, Row right) {
            return lessLoss(costOf(left, right), left, right);
        }

        /** What the likeness is at most: each code that one row has more must be put in or taken out. */
        private int mostLikeness(Row left, Row right) {
            return lessLoss(Math.abs(left.count() - right.count()), left, right);
        }

        private int lessLoss(int cost, Row left, Row right) {
            int codes = Math.max(left.count(), right.count());
            return codes > 0 ? Math.max(FULL_LIKENESS - cost * 100 / codes, 0) : FULL_LIKENESS;
        }

        /** Of the table of costs one line is kept: the costs from the codes so far of the left row. */
        private int costOf(Row left, Row right) {
            int codes = Math.max(Math.min(right.count(), costs.length - 1), 0);
            for (int j = 0; j <= codes; j++) {
                costs[j] = j;
            }
            for (int i = 0; i < left.count(); i++) {
                int aslant = costs[0];
                int code = left.at(i);
                costs[0] = i + 1;
                for (int j = 1; j <= codes; j++) {
                    int inPlace = aslant + placeCost(code, right.at(j - 1));
                    int inOrOut = 1 + Math.min(costs[j], costs[j - 1]);
                    aslant = costs[j];
                    costs[j] = Math.min(inPlace, inOrOut);
                }
            }
            return costs[codes];
        }

        private static int placeCost(int code, int other) {
            return code == other || Codes.isNumber(code) && Codes.isNumber(other) ? 0 : 1;
        }
    }

    /** Compares how often two rows have tags, or number words. */
    private static final class Tally {
        private static final int TAG_SLOTS = 2 * TAGS;
        private static final int SLOTS = TAG_SLOTS + NUMBERS;

        private final int[] counts = new int[SLOTS];

        boolean hasSameTags(Row left, Row right) {
            forget();
            countCodes(left, 1);
            countCodes(right, -1);
            return isLevel(0, TAG_SLOTS);
        }

        boolean hasSameNumbers(Row left, Row right) {
            forget();
            countCodes(left, 1);
            countCodes(right, -1);
            return isLevel(TAG_SLOTS, SLOTS);
        }

        private void forget() {
            for (int i = 0; i < counts.length; i++) {
                counts[i] = 0;
            }
        }

        private void countCodes(Row row, int step) {
            int codes = row.count();
            for (int i = 0; i < codes; i++) {
                int slot = slotOf(row.at(i));
                if (slot >= 0 && slot < counts.length) {
                    counts[slot] += step;
                }
            }
        }

        private static int slotOf(int code) {
            if (Codes.isOpening(code)) {
                return code - FIRST_OPENING;
            }
            if (Codes.isClosing(code)) {
                return code - FIRST_CLOSING + TAGS;
            }
            return Codes.isNumber(code) ? code - FIRST_NUMBER + TAG_SLOTS : NOTHING;
        }

        private boolean isLevel(int from, int behind) {
            for (int i = from; i < behind && i < counts.length; i++) {
                if (counts[i] != 0) {
                    return false;
                }
            }
            return true;
        }
    }

    /** Looks at tags, and mends them. */
    private static final class Tagger {
        private final Row open = new Row(MOST_CODES);
        private final Row work = new Row(MOST_TARGET);
        private final int[] openingsLeft = new int[TAGS];
        private final int[] closingsLeft = new int[TAGS];

        boolean isWellTagged(Row row) {
            open.dropAll();
            int codes = row.count();
            for (int i = 0; i < codes; i++) {
                int code = row.at(i);
                if (Codes.isOpening(code)) {
                    open.put(code);
                } else if (Codes.isClosing(code)) {
                    if (!closesLatest(code)) {
                        return false;
                    }
                    open.dropLast();
                }
            }
            return open.count() == 0;
        }

        /** Tells whether the target changes. */
        boolean repair(Row target, Row source) {
            work.become(target);
            target.dropAll();
            countTags(source);
            keepWhatFits(target);
            closeWhatIsOpen(target);
            addMissingPairs(target);
            return !target.isLike(work);
        }

        private boolean closesLatest(int closing) {
            return open.at(open.count() - 1) == closing - FIRST_CLOSING + FIRST_OPENING;
        }

        private void countTags(Row source) {
            for (int tag = 0; tag < TAGS; tag++) {
                openingsLeft[tag] = 0;
                closingsLeft[tag] = 0;
            }
            int codes = source.count();
            for (int i = 0; i < codes; i++) {
                int code = source.at(i);
                if (Codes.isOpening(code)) {
                    openingsLeft[code - FIRST_OPENING]++;
                } else if (Codes.isClosing(code)) {
                    closingsLeft[code - FIRST_CLOSING]++;
                }
            }
        }

        private void keepWhatFits(Row target) {
            open.dropAll();
            int codes = work.count();
            for (int i = 0; i < codes; i++) {
                int code = work.at(i);
                if (fits(code)) {
                    target.put(code);
                }
            }
        }

        private boolean fits(int code) {
            if (Codes.isOpening(code)) {
                return fitsAsOpening(code, code - FIRST_OPENING);
            }
            if (Codes.isClosing(code)) {
                return fitsAsClosing(code, code - FIRST_CLOSING);
            }
            return true;
        }

        private boolean fitsAsOpening(int code, int tag) {
            if (tag < 0 || tag >= TAGS || openingsLeft[tag] == 0) {
                return false;
            }
            openingsLeft[tag]--;
            open.put(code);
            return true;
        }

        private boolean fitsAsClosing(int code, int tag) {
            if (tag < 0 || tag >= TAGS || closingsLeft[tag] == 0 || !closesLatest(code)) {
                return false;
            }
            closingsLeft[tag]--;
            open.dropLast();
            return true;
        }

        private void closeWhatIsOpen(Row target) {
            for (int i = open.count() - 1; i >= 0; i--) {
                target.put(open.at(i) - FIRST_OPENING + FIRST_CLOSING);
            }
        }

        private void addMissingPairs(Row target) {
            for (int tag = 0; tag < TAGS; tag++) {
                for (int i = 0; i < openingsLeft[tag]; i++) {
                    target.put(FIRST_OPENING + tag);
                    target.put(FIRST_CLOSING + tag);
                }
            }
        }
    }

    /** The wanted and the forbidden words. */
    private static final class Terms {
        private final int[] wanted = new int[FIRST_NUMBER];
        private final boolean[] forbidden = new boolean[FIRST_NUMBER];

        int changeWanted(int word, int next) {
            int before = wantedFor(word);
            if (word >= 0 && word < wanted.length) {
                wanted[word] = next;
            }
            return before;
        }

        int wantedFor(int code) {
            return code >= 0 && code < wanted.length ? wanted[code] : 0;
        }

        boolean changeForbidden(int word, boolean next) {
            boolean before = isForbidden(word);
            if (word >= 0 && word < forbidden.length) {
                forbidden[word] = next;
            }
            return before;
        }

        private boolean isForbidden(int code) {
            return code >= 0 && code < forbidden.length && forbidden[code];
        }

        boolean hasForbidden(Row target) {
            int codes = target.count();
            for (int i = 0; i < codes; i++) {
                if (isForbidden(target.at(i))) {
                    return true;
                }
            }
            return false;
        }

        boolean lacksWanted(Row target, Row source) {
            int codes = source.count();
            for (int i = 0; i < codes; i++) {
                int word = wantedFor(source.at(i));
                if (word != 0 && !target.has(word)) {
                    return true;
                }
            }
            return false;
        }
    }

    /** Fits the target of an entry to a segment, but for the mending of its tags. */
    private static final class Fitter {
        static void fitNumbers(Row target, Row entry, Row segment) {
            if (countNumbers(entry) != countNumbers(segment)) {
                return;
            }
            int codes = target.count();
            for (int i = 0; i < codes; i++) {
                int rank = rankOfNumber(entry, target.at(i));
                if (rank != NOTHING) {
                    target.change(i, numberOfRank(segment, rank));
                }
            }
        }

        static void fitTerm(Row target, Row entry, Row segment, Terms terms) {
            int place = onlyUnlikePlace(entry, segment);
            int old = place == NOTHING ? 0 : terms.wantedFor(entry.at(place));
            int next = place == NOTHING ? 0 : terms.wantedFor(segment.at(place));
            if (old == 0 || next == 0) {
                return;
            }
            int codes = target.count();
            for (int i = 0; i < codes; i++) {
                if (target.at(i) == old) {
                    target.change(i, next);
                }
            }
        }

        private static int countNumbers(Row row) {
            int numbers = 0;
            int codes = row.count();
            for (int i = 0; i < codes; i++) {
                if (Codes.isNumber(row.at(i))) {
                    numbers++;
                }
            }
            return numbers;
        }

        private static int rankOfNumber(Row row, int code) {
            int rank = 0;
            int codes = row.count();
            for (int i = 0; i < codes; i++) {
                if (Codes.isNumber(row.at(i))) {
                    if (row.at(i) == code) {
                        return rank;
                    }
                    rank++;
                }
            }
            return NOTHING;
        }

        private static int numberOfRank(Row row, int rank) {
            int before = 0;
            int codes = row.count();
            for (int i = 0; i < codes; i++) {
                if (Codes.isNumber(row.at(i))) {
                    if (before == rank) {
                        return row.at(i);
                    }
                    before++;
                }
            }
            return NOTHING;
        }

        /** The one place where the rows are unlike, or NOTHING if there is none, or more than one. */
        private static int onlyUnlikePlace(Row left, Row right) {
            if (left.count() != right.count()) {
                return NOTHING;
            }
            int place = NOTHING;
            int codes = left.count();
            for (int i = 0; i < codes; i++) {
                if (left.at(i) != right.at(i)) {
                    if (place != NOTHING) {
                        return NOTHING;
                    }
                    place = i;
                }
            }
            return place;
        }
    }
}
