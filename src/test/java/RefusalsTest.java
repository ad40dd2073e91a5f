import java.io.IOException;
import java.nio.file.Files;
import java.nio.file.Path;
import java.util.Set;
import java.util.TreeSet;
import java.util.function.Supplier;

/**
 * Each sentence 'Throws ..' of the document: the call throws just this, and changes nothing; and where several
 * exceptions apply, the call throws the one that is listed first.
 */
public final class RefusalsTest {
    private static final int MOST = Integer.MAX_VALUE;
    private static final int LEAST = Integer.MIN_VALUE;
    private static final int[] NO_HANDS = {-1, 4, MOST, LEAST};
    private static final int[] NO_WORDS = {0, -1, 80, 99, 100, 200, 300, MOST, LEAST};
    private static final int[] NO_CODES = {-1, 110, 199, 210, 299, 310, MOST, LEAST};
    /** The number of the segments of Scenes.rich(). */
    private static final int SEGMENTS = 5;
    private static final int[] NO_SEGMENTS = {-1, SEGMENTS, MOST, LEAST};

    private static final Set<String> told = new TreeSet<>();

    /** A call of a hand for a segment. */
    private interface HandAct {
        Object on(Tongueworks x, int hand, int segment);
    }

    /** A call for a number: a segment, an index, an entry, a word or a code. */
    private interface NumberAct {
        Object on(Tongueworks x, int number);
    }

    public static void main(String[] args) throws IOException {
        versions();
        cuts();
        reading();
        hands();
        holding();
        writing();
        targets();
        filling();
        approving();
        memory();
        terms();
        figures();
        listedFirst();
        allSentences();
        Due.close();
    }

    private static void refused(String sentence, Class<?> due, Supplier<Tongueworks> scene, Scenes.Act act) {
        String what = sentence + ": ";
        Due.is(what + "thrown", Scenes.answer(scene.get(), act), due.getSimpleName());
        Due.is(what + "changes nothing", Scenes.told(scene, act), Scenes.told(scene, x -> 0));
    }

    /** As refused(), for a sentence of the document, told by its promise and what stands behind 'if'. */
    private static void holds(String sentence, Class<?> due, Supplier<Tongueworks> scene, Scenes.Act act) {
        String[] parts = sentence.split(" ", 2);
        told.add(parts[0] + " Throws `" + due.getSimpleName() + "` if " + parts[1]);
        refused(sentence, due, scene, act);
    }

    private static void noneOf(int[] numbers, String sentence, Class<?> due, NumberAct act) {
        for (int number : numbers) {
            holds(sentence, due, Scenes::rich, x -> act.on(x, number));
            holds(sentence, due, Scenes::begun, x -> act.on(x, number));
        }
    }

    private static void versions() {
        holds("2 a version was begun and is not taken", Due.STATE, Scenes::begun, x -> x.begin());
        holds("2 a version was begun and is not taken", Due.STATE, Scenes::fullDraft, x -> x.begin());
        for (int code : NO_CODES) {
            holds("3 there is no such code", Due.ARGUMENT, Scenes::begun, x -> x.add(code));
        }
        holds("3 none was begun, or it has 80 codes", Due.STATE, Scenes::empty, x -> x.add(1));
        holds("3 none was begun, or it has 80 codes", Due.STATE, Scenes::rich, x -> x.add(1));
        holds("3 none was begun, or it has 80 codes", Due.STATE, Scenes::fullDraft, x -> x.add(0));
        holds("3 none was begun, or it has 80 codes", Due.STATE, Scenes::fullDraft, x -> x.add(300));
        holds("4 none was begun", Due.STATE, Scenes::empty, x -> x.take());
        holds("4 none was begun", Due.STATE, Scenes::rich, x -> x.take());
    }

    private static void cuts() {
        noneOf(NO_WORDS, "5 there is no such word", Due.ARGUMENT, (x, word) -> x.setException(word, true));
        noneOf(NO_WORDS, "5 there is no such word", Due.ARGUMENT, (x, word) -> x.setException(word, false));
        String noCode = "6 there is no such code, or none behind it";
        noneOf(new int[] {-1, 19, 20, MOST, LEAST}, noCode, Due.PLACE, (x, index) -> x.cutAt(index, true));
        noneOf(new int[] {-1, 19, 20, MOST, LEAST}, noCode, Due.PLACE, (x, index) -> x.cutAt(index, false));
        holds(noCode, Due.PLACE, Scenes::empty, x -> x.cutAt(0, true));
        holds(noCode, Due.PLACE, () -> Due.bench(1), x -> x.cutAt(0, true));
        holds(noCode, Due.PLACE, () -> Due.bench(1, 2), x -> x.cutAt(1, true));
        String piece = "6 it or the one behind it is a piece of the skeleton";
        noneOf(new int[] {0, 8, 9, 18}, piece, Due.ARGUMENT, (x, index) -> x.cutAt(index, true));
        noneOf(new int[] {0, 8, 9, 18}, piece, Due.ARGUMENT, (x, index) -> x.cutAt(index, false));
        holds(piece, Due.ARGUMENT, () -> Due.bench(300, 309), x -> x.cutAt(0, true));
    }

    private static void reading() {
        noneOf(NO_SEGMENTS, "8 there is no such segment", Due.PLACE, (x, s) -> x.length(s));
        noneOf(NO_SEGMENTS, "9 there is no such segment or code", Due.PLACE, (x, s) -> x.sourceAt(s, 0));
        noneOf(new int[] {-1, 3, MOST, LEAST}, "9 there is no such segment or code", Due.PLACE,
                (x, index) -> x.sourceAt(0, index));
        noneOf(new int[] {-1, 1, MOST, LEAST}, "9 there is no such segment or code", Due.PLACE,
                (x, index) -> x.sourceAt(SEGMENTS - 1, index));
        noneOf(NO_SEGMENTS, "10 there is no such segment", Due.PLACE, (x, s) -> x.stateOf(s));
        holds("8 there is no such segment", Due.PLACE, Scenes::empty, x -> x.length(0));
        holds("9 there is no such segment or code", Due.PLACE, Scenes::empty, x -> x.sourceAt(0, 0));
        holds("10 there is no such segment", Due.PLACE, Scenes::empty, x -> x.stateOf(0));
    }

    /** The calls of a hand, with the number of their promise. */
    private static void hands() {
        handCall("11", (x, h, s) -> x.hold(h, s));
        handCall("12", (x, h, s) -> x.letGo(h, s));
        handCall("13", (x, h, s) -> x.write(h, s, 1));
        handCall("14", (x, h, s) -> x.copy(h, s));
        handCall("15", (x, h, s) -> x.clear(h, s));
        handCall("16", (x, h, s) -> x.mend(h, s));
        handCall("17", (x, h, s) -> x.fill(h, s));
        handCall("18", (x, h, s) -> x.approve(h, s));
    }

    private static void handCall(String promise, HandAct act) {
        String sentence = promise + " there is no such hand or segment";
        noneOf(NO_HANDS, sentence, Due.PLACE, (x, hand) -> act.on(x, hand, 0));
        noneOf(NO_HANDS, sentence, Due.PLACE, (x, hand) -> act.on(x, hand, SEGMENTS));
        noneOf(NO_SEGMENTS, sentence, Due.PLACE, (x, segment) -> act.on(x, 0, segment));
        noneOf(NO_SEGMENTS, sentence, Due.PLACE, (x, segment) -> act.on(x, 3, segment));
        holds(sentence, Due.PLACE, Scenes::empty, x -> act.on(x, 0, 0));
    }

    private static void holding() {
        String another = "11 another hand holds it";
        holds(another, Due.STATE, Scenes::rich, x -> x.hold(1, 0));
        holds(another, Due.STATE, Scenes::rich, x -> x.hold(3, 0));
        holds(another, Due.STATE, Scenes::rich, x -> x.hold(0, 1));
        String other = "12 it does not hold it";
        holds(other, Due.STATE, Scenes::rich, x -> x.letGo(1, 0));
        holds(other, Due.STATE, Scenes::rich, x -> x.letGo(0, 1));
        holds(other, Due.STATE, Scenes::rich, x -> x.letGo(0, 3));
    }

    private static void writing() {
        String noCode = "13 there is no such code, or it is one of the skeleton";
        for (int code : NO_CODES) {
            holds(noCode, Due.ARGUMENT, Scenes::rich, x -> x.write(0, 0, code));
        }
        for (int code : new int[] {300, 305, 309}) {
            holds(noCode, Due.ARGUMENT, Scenes::rich, x -> x.write(0, 0, code));
            holds(noCode, Due.ARGUMENT, Scenes::rich, x -> x.write(0, 4, code));
        }
        String full = "13 the hand does not hold the segment, or the target has 24 codes";
        holds(full, Due.STATE, Scenes::rich, x -> x.write(1, 0, 1));
        holds(full, Due.STATE, Scenes::rich, x -> x.write(0, 3, 1));
        holds(full, Due.STATE, Scenes::fullTarget, x -> x.write(2, 0, 1));
        holds(full, Due.STATE, Scenes::fullTarget, x -> x.write(2, 1, 0));
    }

    private static void targets() {
        holds("14 the hand does not hold the segment", Due.STATE, Scenes::rich, x -> x.copy(1, 0));
        holds("14 the hand does not hold the segment", Due.STATE, Scenes::rich, x -> x.copy(0, 3));
        holds("15 the hand does not hold the segment", Due.STATE, Scenes::rich, x -> x.clear(1, 0));
        holds("15 the hand does not hold the segment", Due.STATE, Scenes::rich, x -> x.clear(0, 3));
        String mend = "16 the hand does not hold the segment, or it has no target";
        holds(mend, Due.STATE, Scenes::rich, x -> x.mend(0, 2));
        holds(mend, Due.STATE, Scenes::rich, x -> x.mend(0, 3));
        holds(mend, Due.STATE, Scenes::rich, x -> x.mend(0, 4));
        noneOf(NO_SEGMENTS, "19 there is no such segment", Due.PLACE, (x, s) -> x.setApart(s, true));
        noneOf(NO_SEGMENTS, "19 there is no such segment", Due.PLACE, (x, s) -> x.setApart(s, false));
        noneOf(NO_SEGMENTS, "20 there is no such segment", Due.PLACE, (x, s) -> x.targetLength(s));
        String noCode = "21 there is no such segment or code";
        noneOf(NO_SEGMENTS, noCode, Due.PLACE, (x, s) -> x.targetAt(s, 0));
        noneOf(new int[] {-1, 2, MOST, LEAST}, noCode, Due.PLACE, (x, index) -> x.targetAt(0, index));
        noneOf(new int[] {-1, 0, MOST, LEAST}, noCode, Due.PLACE, (x, index) -> x.targetAt(4, index));
        holds(noCode, Due.PLACE, Scenes::fullTarget, x -> x.targetAt(0, 24));
        noneOf(NO_SEGMENTS, "22 there is no such segment", Due.PLACE, (x, s) -> x.faults(s));
        holds("22 it has no target", Due.MISSING, Scenes::rich, x -> x.faults(3));
        holds("22 it has no target", Due.MISSING, Scenes::rich, x -> x.faults(4));
    }

    private static void filling() {
        holds("17 the hand does not hold the segment", Due.STATE, Scenes::rich, x -> x.fill(1, 0));
        holds("17 the hand does not hold the segment", Due.STATE, Scenes::rich, x -> x.fill(3, 0));
        holds("17 it has no match", Due.MISSING, Scenes::rich, x -> x.fill(3, 1));
        holds("17 it has no match", Due.MISSING, Scenes::rich, x -> x.fill(0, 4));
        holds("17 it has no match", Due.MISSING, RefusalsTest::withoutEntries, x -> x.fill(0, 0));
    }

    private static Tongueworks withoutEntries() {
        Tongueworks x = Due.bench(1, 2);
        Due.target(x, 0, 5, 6);
        return x;
    }

    private static void approving() {
        String held = "18 the hand does not hold the segment, or it has no target";
        holds(held, Due.STATE, Scenes::rich, x -> x.approve(1, 0));
        holds(held, Due.STATE, Scenes::rich, x -> x.approve(0, 3));
        holds(held, Due.STATE, Scenes::rich, x -> x.approve(0, 4));
        String faults = "18 it has one of the faults 1 and 2";
        holds(faults, Due.UNSUPPORTED, Scenes::rich, x -> x.approve(1, 2));
        holds(faults, Due.UNSUPPORTED, Scenes::fullMemory, x -> x.approve(0, 30));
        holds(faults, Due.UNSUPPORTED, () -> faulty(200, 100), x -> x.approve(0, 0));
        holds(faults, Due.UNSUPPORTED, () -> faulty(9), x -> x.approve(0, 0));
        holds(faults, Due.UNSUPPORTED, () -> faulty(101, 201), x -> x.approve(0, 0));
        holds(faults, Due.UNSUPPORTED, () -> faulty(100, 200, 100, 200), x -> x.approve(0, 0));
    }

    private static Tongueworks faulty(int... target) {
        Tongueworks x = Due.bench(100, 1, 200, 0, 100, 1, 200, 0);
        Due.target(x, 0, target);
        return x;
    }

    private static void memory() {
        String either = "23 there is no such segment, for either";
        noneOf(NO_SEGMENTS, either, Due.PLACE, (x, s) -> x.likeness(s, 0));
        noneOf(NO_SEGMENTS, either, Due.PLACE, (x, s) -> x.likeness(0, s));
        noneOf(NO_SEGMENTS, either, Due.PLACE, (x, s) -> x.likeness(s, s));
        int[] noEntries = {-1, 1, MOST, LEAST};
        noneOf(noEntries, "25 there is no such entry", Due.PLACE, (x, entry) -> x.ageOf(entry));
        holds("25 there is no such entry", Due.PLACE, Scenes::empty, x -> x.ageOf(0));
        holds("25 there is no such entry", Due.PLACE, Scenes::fullMemory, x -> x.ageOf(30));
        noneOf(NO_SEGMENTS, "26 there is no such segment or entry", Due.PLACE, (x, s) -> x.valueFor(s, 0));
        noneOf(noEntries, "26 there is no such segment or entry", Due.PLACE, (x, entry) -> x.valueFor(0, entry));
        holds("26 there is no such segment or entry", Due.PLACE, Scenes::fullMemory, x -> x.valueFor(0, 30));
        noneOf(NO_SEGMENTS, "27 there is no such segment", Due.PLACE, (x, s) -> x.bestFor(s));
        noneOf(NO_SEGMENTS, "28 there is no such segment", Due.PLACE, (x, s) -> x.bestAnew(s));
        holds("27 it has none", Due.MISSING, RefusalsTest::withoutEntries, x -> x.bestFor(0));
        holds("28 it has none", Due.MISSING, RefusalsTest::withoutEntries, x -> x.bestAnew(0));
        holds("27 it has none", Due.MISSING, Scenes::rich, x -> x.bestFor(1));
        holds("28 it has none", Due.MISSING, Scenes::rich, x -> x.bestAnew(1));
        holds("27 it has none", Due.MISSING, Scenes::fullMemory, x -> x.bestFor(30));
        holds("28 it has none", Due.MISSING, Scenes::fullMemory, x -> x.bestAnew(30));
    }

    private static void terms() {
        String either = "29 there is no such word, for either";
        noneOf(NO_WORDS, either, Due.ARGUMENT, (x, word) -> x.want(word, 5));
        noneOf(NO_WORDS, either, Due.ARGUMENT, (x, word) -> x.want(word, 0));
        int[] noWanted = {-1, 80, 99, 100, 200, 300, MOST, LEAST};
        noneOf(noWanted, either, Due.ARGUMENT, (x, word) -> x.want(1, word));
        noneOf(noWanted, either, Due.ARGUMENT, (x, word) -> x.want(0, word));
        noneOf(NO_WORDS, "30 there is no such word", Due.ARGUMENT, (x, word) -> x.forbid(word, true));
        noneOf(NO_WORDS, "30 there is no such word", Due.ARGUMENT, (x, word) -> x.forbid(word, false));
    }

    private static void figures() {
        int codes = Scenes.rich().together();
        noneOf(new int[] {-1, codes, MOST, LEAST}, "32 there is no such code", Due.PLACE,
                (x, index) -> x.togetherAt(index));
        holds("32 there is no such code", Due.PLACE, Scenes::empty, x -> x.togetherAt(0));
        holds("34 there are none", Due.ARITHMETIC, Scenes::empty, x -> x.approvedShare());
        holds("35 there are none", Due.ARITHMETIC, Scenes::empty, x -> x.meanValue());
        holds("34 there are none", Due.ARITHMETIC, () -> Due.bench(300, 309), x -> x.approvedShare());
        holds("35 there are none", Due.ARITHMETIC, () -> Due.bench(300, 309), x -> x.meanValue());
        holds("34 there are none", Due.ARITHMETIC, RefusalsTest::emptied, x -> x.approvedShare());
        holds("35 there are none", Due.ARITHMETIC, RefusalsTest::emptied, x -> x.meanValue());
    }

    /** Has entries, but no segments. */
    private static Tongueworks emptied() {
        Tongueworks x = Scenes.rich();
        Due.version(x);
        return x;
    }

    /** 'If several exceptions apply, the exception that is listed first is thrown.' */
    private static void listedFirst() {
        first("3 no code, none begun", Due.ARGUMENT, Scenes::rich, x -> x.add(310));
        first("3 no code, 80 codes", Due.ARGUMENT, Scenes::fullDraft, x -> x.add(-1));
        first("6 none behind it, a piece", Due.PLACE, Scenes::rich, x -> x.cutAt(19, true));
        first("6 none behind it, a piece alone", Due.PLACE, () -> Due.bench(300), x -> x.cutAt(0, false));
        first("11 no hand, held by another", Due.PLACE, Scenes::rich, x -> x.hold(4, 0));
        first("12 no hand, so not held", Due.PLACE, Scenes::rich, x -> x.letGo(-1, 0));
        // nobody's mark inside must not be taken for a hand
        first("12 no hand, of a free segment", Due.PLACE, Scenes::rich, x -> x.letGo(-1, 3));
        first("13 no hand, no code, not held", Due.PLACE, Scenes::rich, x -> x.write(4, 0, 310));
        first("13 no segment, no code, not held", Due.PLACE, Scenes::rich, x -> x.write(0, SEGMENTS, 300));
        first("13 no code, not held", Due.ARGUMENT, Scenes::rich, x -> x.write(1, 0, 310));
        first("13 a piece, not held", Due.ARGUMENT, Scenes::rich, x -> x.write(0, 3, 300));
        first("13 no code, 24 codes", Due.ARGUMENT, Scenes::fullTarget, x -> x.write(2, 0, 210));
        first("13 no hand, 24 codes", Due.PLACE, Scenes::fullTarget, x -> x.write(4, 0, 1));
        first("14 no hand, not held", Due.PLACE, Scenes::rich, x -> x.copy(-1, 3));
        first("15 no hand, not held", Due.PLACE, Scenes::rich, x -> x.clear(-1, 3));
        first("16 no hand, no target", Due.PLACE, Scenes::rich, x -> x.mend(-1, 3));
        first("17 no hand, no match", Due.PLACE, Scenes::rich, x -> x.fill(-1, 3));
        first("17 no segment, no match", Due.PLACE, Scenes::rich, x -> x.fill(0, SEGMENTS));
        first("17 not held, no match", Due.STATE, Scenes::rich, x -> x.fill(1, 4));
        first("18 no hand, faults", Due.PLACE, Scenes::rich, x -> x.approve(4, 2));
        first("18 no hand, no target", Due.PLACE, Scenes::rich, x -> x.approve(-1, 3));
        first("18 not held, faults", Due.STATE, Scenes::rich, x -> x.approve(0, 2));
        first("22 no segment, so no target", Due.PLACE, Scenes::rich, x -> x.faults(SEGMENTS));
        first("27 no segment, an empty memory", Due.PLACE, RefusalsTest::withoutEntries, x -> x.bestFor(1));
        first("28 no segment, an empty memory", Due.PLACE, RefusalsTest::withoutEntries, x -> x.bestAnew(1));
    }

    private static void first(String what, Class<?> due, Supplier<Tongueworks> scene, Scenes.Act act) {
        refused("listed first, " + what, due, scene, act);
    }

    /** No sentence of the document is left out, and none is here that the document has not. */
    private static void allSentences() throws IOException {
        Set<String> due = new TreeSet<>();
        String promise = "";
        for (String line : Files.readAllLines(Path.of("../shared/DOC.md"))) {
            if (line.startsWith("## Promise ")) {
                promise = line.substring("## Promise ".length(), line.indexOf(':'));
            } else if (line.startsWith("Throws ")) {
                due.add(promise + " " + line);
            }
        }
        Due.is("the sentences 'Throws ..' of the document", told, due);
    }
}
