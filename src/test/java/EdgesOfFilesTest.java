/** The sentences of the document that name a boundary: codes, segments, matching, and promises 1 to 10. */
public final class EdgesOfFilesTest {
    public static void main(String[] args) {
        kindsOfCodes();
        everyCode();
        everyWord();
        atMost80Codes();
        aNewOneWithEachBegin();
        theOldOneStays();
        rowsOfNoPieces();
        behindEachEnd();
        noCodeAheadInTheWholeRow();
        wordsToldAsExceptions();
        ifSomethingChanges();
        cutsByHand();
        aLaterOneTakesThePlace();
        noneBehindIt();
        cutsByHandGo();
        noSegments();
        longestRow();
        earliestNewThenOld();
        matchedSegmentKeeps();
        allOthersAreNew();
        greatestFiles();
        Due.close();
    }

    private static void kindsOfCodes() {
        String text = "'0 an end, 1 to 79 a word, 80 to 99 a number word': ";
        Due.is(text + "0 cuts", Due.sources(Due.bench(1, 0, 2)), "1 0|2");
        Due.is(text + "1 does not", Due.sources(Due.bench(1, 1, 2)), "1 1 2");
        Due.is(text + "80 and 99 are alike", Due.bench(80, 300, 99).likeness(0, 1), 100);
        Due.is(text + "79 and 80 are not", Due.bench(79, 300, 80).likeness(0, 1), 0);
        Due.is(text + "99 and 100 are not", Due.bench(99, 300, 100).likeness(0, 1), 0);
        Due.is(text + "0 and 80 are not", Due.bench(0, 300, 80).likeness(0, 1), 0);
        Due.is(text + "1 and 79 are not", Due.bench(1, 300, 79).likeness(0, 1), 0);
        String tags = "'100 to 109 the opening of the tag 0 to 9, 200 to 209 its closing': ";
        for (int tag = 0; tag < 10; tag++) {
            Tongueworks x = Due.bench(100 + tag, 1, 200 + tag);
            x.hold(0, 0);
            x.copy(0, 0);
            Due.is(tags + tag + " is well tagged", x.faults(0), 0);
            x.clear(0, 0);
            x.write(0, 0, 100 + tag);
            x.write(0, 0, 1);
            Due.is(tags + tag + " is not closed", x.faults(0), 3);
            x.write(0, 0, 200 + (tag + 9) % 10);
            Due.is(tags + tag + " is closed by another", x.faults(0), 3);
        }
        String pieces = "'300 to 309 a piece of the skeleton': ";
        Due.is(pieces + "300 and 309", Due.sources(Due.bench(300, 1, 309, 2)), "1|2");
        Due.is(pieces + "209 is none", Due.sources(Due.bench(1, 209, 2)), "1 209 2");
    }

    private static boolean isCode(int code) {
        return code >= 0 && code <= 109 || code >= 200 && code <= 209 || code >= 300 && code <= 309;
    }

    private static void everyCode() {
        String text = "3 13 'if there is no such code': ";
        for (int code = -120; code <= 420; code++) {
            int number = code;
            Tongueworks x = new Tongueworks();
            x.begin();
            boolean isPiece = code >= 300 && code <= 309;
            Due.is(text + "add " + code, Scenes.answer(x, b -> b.add(number)),
                    isCode(code) ? "1" : "IllegalArgumentException");
            Due.is(text + code + " stands", x.take() + x.together(), isCode(code) ? 1 : 0);
            Due.version(x, 1);
            x.hold(0, 0);
            Due.is(text + "write " + code, Scenes.answer(x, b -> b.write(0, 0, number)),
                    isCode(code) && !isPiece ? "1" : "IllegalArgumentException");
            Due.is(text + code + " is written", Due.target(x, 0),
                    isCode(code) && !isPiece ? String.valueOf(code) : "none");
        }
    }

    private static void everyWord() {
        String text = "5 29 30 'if there is no such word', 'the word, 1 to 79': ";
        for (int i = -1; i <= 101; i++) {
            int word = i;
            boolean isWord = i >= 1 && i <= 79;
            Tongueworks x = new Tongueworks();
            Due.is(text + "setException " + i, Scenes.answer(x, b -> b.setException(word, true)),
                    isWord ? "false" : "IllegalArgumentException");
            Due.is(text + "forbid " + i, Scenes.answer(x, b -> b.forbid(word, true)),
                    isWord ? "false" : "IllegalArgumentException");
            Due.is(text + "want " + i, Scenes.answer(x, b -> b.want(word, 1)),
                    isWord ? "0" : "IllegalArgumentException");
            Tongueworks y = new Tongueworks();
            Due.is(text + "wanted " + i, Scenes.answer(y, b -> b.want(40, word)),
                    isWord || i == 0 ? "0" : "IllegalArgumentException");
            Due.is(text + "wanted then, " + i, y.want(40, 0), isWord ? i : 0);
            Due.is(text + "an exception then, " + i, Scenes.answer(x, b -> b.setException(word, true)),
                    isWord ? "true" : "IllegalArgumentException");
            Due.is(text + "forbidden then, " + i, Scenes.answer(x, b -> b.forbid(word, true)),
                    isWord ? "true" : "IllegalArgumentException");
        }
    }

    private static void atMost80Codes() {
        String text = "3 'A file has at most 80 codes', 'or it has 80 codes': ";
        Tongueworks x = new Tongueworks();
        x.begin();
        for (int i = 1; i <= 80; i++) {
            Due.is(text + "code by code", x.add(i % 80), i);
        }
        Due.fails(text + "the 81st", Due.STATE, () -> x.add(1));
        Due.fails(text + "the 81st once more", Due.STATE, () -> x.add(300));
        x.take();
        Due.is(text + "80 are taken", x.together(), 80);
        Due.is(text + "the 79th", x.togetherAt(78), 79);
        Due.is(text + "the 80th", x.togetherAt(79), 0);
        Due.is(text + "the next version has room again", x.begin() + x.add(5), 2);
    }

    private static void aNewOneWithEachBegin() {
        String text = "2 'it is a new one with each call of begin()', 'which is empty': ";
        Tongueworks x = Due.bench(1, 2, 3);
        x.begin();
        Due.is(text + "taken as it is begun", x.take(), 0);
        Due.is(text + "no codes", x.together(), 0);
        Due.is(text + "no codes of the one ahead", x.begin(), 2);
        Due.is(text + "the first code", x.add(9), 1);
        x.take();
        Due.is(text + "it alone", Due.together(x), "9");
        x.begin();
        Due.is(text + "again the first code", x.add(8), 1);
        String count = "2 'the number of versions that were taken': ";
        Tongueworks y = new Tongueworks();
        Due.is(count + "none", y.begin(), 0);
        Due.fails(count + "begun again", Due.STATE, () -> y.begin());
        y.take();
        Due.is(count + "a call that throws begins none", y.begin(), 1);
        y.take();
        y.setException(1, true);
        Due.is(count + "segments cut anew are no version", y.begin(), 2);
    }

    private static void theOldOneStays() {
        String text = "2 'the old one stays until it is taken': ";
        Tongueworks x = Due.bench(1, 7, 0, 2, 0, 300, 4);
        x.begin();
        for (int code = 0; code < 80; code++) {
            x.add(code == 40 ? 301 : 50);
        }
        Due.is(text + "its segments", Due.sources(x), "1 7 0|2 0|4");
        Due.is(text + "it is put together", Due.together(x), "1 7 0 2 0 300 4");
        Due.is(text + "it is cut", x.cutAt(0, true), 4);
        x.setException(7, true);
        Due.is(text + "it is cut by rules", Due.sources(x), "1|7 0 2 0|4");
        Due.approve(x, 2, 44);
        Due.is(text + "it is translated", Due.together(x), "1 7 0 2 0 300 44");
        x.take();
        Due.is(text + "it has gone", Due.sources(x).length(), "50 ".length() * 79 - 1);
    }

    private static void rowsOfNoPieces() {
        String text = "4 'rows of codes that are no pieces of the skeleton, as long as can be': ";
        Due.is(text + "no codes", Due.bench().segments(), 0);
        Due.is(text + "one piece", Due.bench(305).segments(), 0);
        Due.is(text + "one code", Due.sources(Due.bench(5)), "5");
        Due.is(text + "pieces at both ends", Due.sources(Due.bench(300, 300, 5, 6, 309, 309)), "5 6");
        Due.is(text + "pieces side by side", Due.sources(Due.bench(5, 300, 301, 6)), "5|6");
        Due.is(text + "an end ahead of a piece", Due.sources(Due.bench(5, 0, 300, 6)), "5 0|6");
        Due.is(text + "a piece ahead of an end", Due.sources(Due.bench(5, 300, 0)), "5|0");
        Due.is(text + "an end at the end of the file", Due.sources(Due.bench(5, 0)), "5 0");
        Due.is(text + "an end ahead of a piece at the end", Due.sources(Due.bench(5, 0, 309)), "5 0");
        String numbers = "7 'numbered from 0': ";
        Tongueworks x = Due.bench(5, 0, 6);
        Due.is(numbers + "the first", x.sourceAt(0, 0), 5);
        Due.is(numbers + "the last", x.sourceAt(1, 0), 6);
    }

    private static void behindEachEnd() {
        String text = "4 'is cut behind each end': ";
        Due.is(text + "behind a word", Due.sources(Due.bench(79, 0, 1)), "79 0|1");
        Due.is(text + "behind a number word", Due.sources(Due.bench(80, 0, 99, 0, 1)), "80 0|99 0|1");
        Due.is(text + "behind a tag", Due.sources(Due.bench(100, 0, 209, 0, 1)), "100 0|209 0|1");
        Due.is(text + "behind an end", Due.sources(Due.bench(1, 0, 0, 0, 1)), "1 0|0|0|1");
    }

    private static void noCodeAheadInTheWholeRow() {
        String text = "4 'or there is no code ahead of it in the whole row': ";
        Due.is(text + "at the start of the file", Due.sources(Due.bench(0, 1)), "0 1");
        Due.is(text + "behind a piece", Due.sources(Due.bench(1, 309, 0, 1)), "1|0 1");
        Due.is(text + "only the first end of a row", Due.sources(Due.bench(300, 0, 0, 0)), "0 0|0");
        Tongueworks x = Due.bench(1, 0, 2);
        x.cutAt(0, true);
        Due.is(text + "a row is more than a segment", Due.sources(x), "1|0|2");
        Tongueworks y = Due.bench(300, 0, 2);
        Due.is(text + "split there by hand", y.cutAt(1, true), 2);
        Tongueworks z = new Tongueworks();
        z.setException(1, true);
        Due.version(z, 1, 300, 0, 2, 0, 1, 0, 3);
        Due.is(text + "the code ahead of a piece is none", Due.sources(z), "1|0 2 0|1 0 3");
    }

    private static void wordsToldAsExceptions() {
        String text = "5 'unless the code ahead of this is a word that is told as an exception': ";
        Tongueworks x = new Tongueworks();
        for (int word = 1; word <= 79; word++) {
            x.setException(word, true);
        }
        Due.version(x, 1, 0, 79, 0, 80, 0, 1, 100, 0, 1, 0, 0, 2);
        Due.is(text + "all words", Due.sources(x), "1 0 79 0 80 0|1 100 0|1 0 0|2");
        x.setException(79, false);
        Due.is(text + "all but 79", Due.sources(x), "1 0 79 0|80 0|1 100 0|1 0 0|2");
        x.setException(1, false);
        Due.is(text + "all but 1 and 79", Due.sources(x), "1 0|79 0|80 0|1 100 0|1 0|0|2");
        Tongueworks y = Due.bench(1, 2, 0, 3);
        y.setException(1, true);
        Due.is(text + "not the one ahead of that", Due.sources(y), "1 2 0|3");
        y.setException(2, true);
        Due.is(text + "the one ahead", Due.sources(y), "1 2 0 3");
    }

    private static void ifSomethingChanges() {
        String text = "5 19 'segments are cut anew if something changes by this': ";
        Tongueworks x = Due.bench(1, 0, 2, 0);
        x.setApart(0, true);
        Due.is(text + "no exception before, none then", x.setException(1, false), false);
        Due.is(text + "apart still", x.setApart(0, true), true);
        Due.is(text + "no exception before, one then", x.setException(1, true), false);
        Due.is(text + "cut anew", x.segments(), 1);
        Due.is(text + "apart no more", x.setApart(0, true), false);
        Due.is(text + "an exception before and then", x.setException(1, true), true);
        Due.is(text + "apart once more", x.setApart(0, true), true);
        Due.is(text + "an exception before, none then", x.setException(1, false), true);
        Due.is(text + "cut as at first", Due.sources(x), "1 0|2 0");
        Due.is(text + "not apart", x.setApart(0, true), false);
        Due.fails(text + "no word", Due.ARGUMENT, () -> x.setException(0, true));
        Due.is(text + "apart behind a call that throws", x.setApart(0, true), true);
    }

    private static void cutsByHand() {
        String text = "6 'behind each place that was split by hand, and not at a place that was joined': ";
        Tongueworks x = Due.bench(1, 2, 3);
        Due.is(text + "behind the first code", x.cutAt(0, true), 2);
        Due.is(text + "behind the last but one", x.cutAt(1, true), 3);
        Due.is(text + "both", Due.sources(x), "1|2|3");
        Due.is(text + "not at the first", x.cutAt(0, false), 2);
        Due.is(text + "the other one stays", Due.sources(x), "1 2|3");
        Tongueworks y = Due.bench(1, 0, 2, 0);
        Due.is(text + "joined behind an end", y.cutAt(1, false), 1);
        Due.is(text + "joined where no cut would be", y.cutAt(0, false), 1);
        Due.is(text + "split behind an end", y.cutAt(1, true), 2);
        y.setException(1, true);
        Due.is(text + "split behind an exception", y.segments(), 2);
        Tongueworks z = Due.bench(300, 1, 0, 2, 301, 3);
        Due.is(text + "indexes are those of the file", z.cutAt(1, true), 4);
        Due.is(text + "so it is", Due.sources(z), "1|0|2|3");
        Due.is(text + "just behind a piece", z.cutAt(2, false), 3);
        Due.is(text + "and so on", Due.sources(z), "1|0 2|3");
    }

    private static void aLaterOneTakesThePlace() {
        String text = "6 'a later one takes the place of an earlier one': ";
        Tongueworks x = Due.bench(1, 2, 0, 3);
        for (int round = 0; round < 3; round++) {
            Due.is(text + "split", x.cutAt(0, true), 3);
            Due.is(text + "joined", x.cutAt(0, false), 2);
            Due.is(text + "joined behind the end", x.cutAt(2, false), 1);
            Due.is(text + "split behind the end", x.cutAt(2, true), 2);
        }
        x.setException(2, true);
        Due.is(text + "the last one counts", x.segments(), 2);
    }

    private static void noneBehindIt() {
        String text = "6 'if there is no such code, or none behind it': ";
        Tongueworks x = Due.bench(1, 2);
        Due.fails(text + "-1", Due.PLACE, () -> x.cutAt(-1, true));
        Due.fails(text + "the last", Due.PLACE, () -> x.cutAt(1, true));
        Due.fails(text + "behind the last", Due.PLACE, () -> x.cutAt(2, true));
        Due.is(text + "the last but one", x.cutAt(0, true), 2);
        Tongueworks y = new Tongueworks();
        y.begin();
        for (int i = 0; i < 80; i++) {
            y.add(1);
        }
        y.take();
        Due.is(text + "the last but one of 80", y.cutAt(78, true), 2);
        Due.is(text + "the codes ahead", y.length(0), 79);
        Due.fails(text + "the last of 80", Due.PLACE, () -> y.cutAt(79, true));
        Due.fails(text + "behind 80", Due.PLACE, () -> y.cutAt(80, true));
        Due.version(y, 1, 2);
        Due.fails(text + "of a longer version before", Due.PLACE, () -> y.cutAt(1, true));
    }

    private static void cutsByHandGo() {
        String text = "4 'cuts by hand go': ";
        Tongueworks x = Due.bench(1, 2, 0, 3, 0, 4);
        x.cutAt(0, true);
        x.cutAt(2, false);
        x.cutAt(4, true);
        x.begin();
        Due.is(text + "not by begin()", Due.sources(x), "1|2 0 3 0|4");
        for (int code : new int[] {1, 2, 0, 3, 0, 4}) {
            x.add(code);
        }
        x.take();
        Due.is(text + "by take()", Due.sources(x), "1 2 0|3 0|4");
        x.setException(3, true);
        Due.is(text + "the one behind the end, too", Due.sources(x), "1 2 0|3 0 4");
        String rules = "4 rules stay: ";
        Due.version(x, 3, 0, 5);
        Due.is(rules + "an exception", x.segments(), 1);
    }

    private static void noSegments() {
        String text = "no segments at all: ";
        Tongueworks x = Due.bench(1, 0);
        Due.approve(x, 0, 9);
        for (int round = 0; round < 2; round++) {
            Due.is(text + "4 none is kept", round == 0 ? Due.version(x, 300) : Due.version(x), 0);
            Due.is(text + "7", x.segments(), 0);
            Due.is(text + "5", x.setException(1, round == 0), round == 1);
            Due.fails(text + "6", Due.PLACE, () -> x.cutAt(0, true));
            Due.fails(text + "8", Due.PLACE, () -> x.length(0));
            Due.fails(text + "11", Due.PLACE, () -> x.hold(0, 0));
            Due.is(text + "24", x.entries(), 1);
            Due.is(text + "31", x.together(), 1 - round);
            Due.fails(text + "34", Due.ARITHMETIC, () -> x.approvedShare());
            Due.fails(text + "35", Due.ARITHMETIC, () -> x.meanValue());
            Due.is(text + "36", x.isSound(), true);
        }
        Due.is(text + "segments again are new", Due.version(x, 1, 0), 0);
        Due.is(text + "without what went", Due.states(x), "n");
    }

    /** Gives each segment a target of its own number, so that it can be told which one is kept. */
    private static void mark(Tongueworks x) {
        for (int i = 0; i < x.segments(); i++) {
            x.hold(0, i);
            x.write(0, i, 60 + i);
            x.letGo(0, i);
        }
    }

    private static String kept(Tongueworks x) {
        StringBuilder text = new StringBuilder();
        for (int i = 0; i < x.segments(); i++) {
            text.append(i == 0 ? "" : " ").append(x.targetLength(i) < 0 ? "-" : Due.target(x, i));
        }
        return text.toString();
    }

    private static String kept(int[] before, int... then) {
        String kept = kept(new Tongueworks(), before, then);
        Due.is("4 what was matched long ago does not count", kept(used(), before, then), kept);
        return kept;
    }

    private static String kept(Tongueworks x, int[] before, int... then) {
        Due.version(x, before);
        mark(x);
        int pairs = Due.version(x, then);
        String kept = kept(x);
        Due.is("4 pairs of " + kept, pairs, (int) kept.chars().filter(c -> c == '6').count());
        return kept;
    }

    /** A bench that has matched 40 segments with as many, all with the same source, and has none now. */
    private static Tongueworks used() {
        int[] codes = new int[80];
        for (int i = 0; i < codes.length; i++) {
            codes[i] = i % 2 == 0 ? 1 : 300;
        }
        Tongueworks x = Due.bench(codes);
        Due.is("4 40 are kept", Due.version(x, codes), 40);
        Due.version(x);
        return x;
    }

    /** The segments are pieces apart, so that each has one code. */
    private static int[] apart(int... words) {
        int[] codes = new int[2 * words.length];
        for (int i = 0; i < words.length; i++) {
            codes[2 * i] = words[i];
            codes[2 * i + 1] = 300;
        }
        return codes;
    }

    private static void longestRow() {
        String text = "4 'by the longest row of pairs in order with the same source': ";
        Due.is(text + "none before", kept(apart(), apart(1, 2)), "- -");
        Due.is(text + "none then", kept(apart(1, 2), apart()), "");
        Due.is(text + "none alike", kept(apart(1, 2), apart(3, 4)), "- -");
        Due.is(text + "all", kept(apart(1, 2, 3), apart(1, 2, 3)), "60 61 62");
        Due.is(text + "all alike", kept(apart(1, 1, 1), apart(1, 1, 1)), "60 61 62");
        Due.is(text + "one is gone", kept(apart(1, 2, 3), apart(1, 3)), "60 62");
        Due.is(text + "one is put in", kept(apart(1, 3), apart(1, 2, 3)), "60 - 61");
        Due.is(text + "the first one would cost two", kept(apart(2, 3, 1), apart(1, 2, 3)), "- 60 61");
        Due.is(text + "the last one would cost two", kept(apart(3, 1, 2), apart(1, 2, 3)), "61 62 -");
        Due.is(text + "turned round", kept(apart(1, 2, 3), apart(3, 2, 1)), "62 - -");
        Due.is(text + "the same source to its last code", kept(new int[] {1, 2, 3}, 1, 2, 4), "-");
        Due.is(text + "the same source and one code more", kept(new int[] {1, 2, 3}, 1, 2), "-");
        Due.is(text + "number words are codes as they are", kept(new int[] {80}, 81), "-");
    }

    private static void earliestNewThenOld() {
        String text = "4 'that with the earliest new segments, and then the earliest old ones': ";
        Due.is(text + "one new one of three", kept(apart(1), apart(2, 1, 1, 1)), "- 60 - -");
        Due.is(text + "one old one of three", kept(apart(2, 1, 1, 1), apart(1)), "61");
        Due.is(text + "two of three new ones", kept(apart(1, 1), apart(1, 1, 1)), "60 61 -");
        Due.is(text + "two of three old ones", kept(apart(1, 1, 1), apart(1, 1)), "60 61");
        Due.is(text + "new ones count first", kept(apart(1, 2), apart(2, 1)), "61 -");
        Due.is(text + "the earliest of two ways", kept(apart(1, 2, 1), apart(2, 1, 2)), "61 62 -");
        Due.is(text + "the second new one, too", kept(apart(1, 2, 3), apart(1, 3, 2)), "60 62 -");
        Due.is(text + "the second old one, too", kept(apart(1, 2, 2), apart(1, 2)), "60 61");
        Due.is(text + "as early as the longest row lets", kept(apart(1, 2, 1, 3), apart(1, 3, 1)), "60 63 -");
        Due.is(text + "old ones between", kept(apart(3, 1, 3, 1, 2), apart(1, 2)), "61 64");
    }

    private static void matchedSegmentKeeps() {
        String text = "4 'A matched segment keeps target, state and hand': ";
        Tongueworks x = Due.bench(apart(1, 2, 3, 4, 5));
        Due.approve(x, 0, 9);
        x.hold(3, 1);
        x.write(3, 1, 8);
        x.hold(2, 2);
        x.hold(1, 3);
        x.setApart(4, true);
        Due.is(text + "also if it has nothing", Due.version(x, apart(6, 1, 2, 3, 4, 5)), 5);
        Due.is(text + "states", Due.states(x), "nadnnn");
        Due.is(text + "a target", Due.target(x, 1), "9");
        Due.is(text + "a target of a draft", Due.target(x, 2), "8");
        Due.is(text + "no target", x.targetLength(3), -1);
        Due.is(text + "the hand 0", x.letGo(0, 1), 0);
        Due.is(text + "the hand 3", x.letGo(3, 2), 0);
        Due.is(text + "the hand 2 of one without target", x.letGo(2, 3), 0);
        Due.is(text + "the hand 1", x.letGo(1, 4), 0);
        Due.fails(text + "no hand", Due.STATE, () -> x.letGo(0, 5));
        Due.is("19 'this goes for all when segments are cut anew'", x.setApart(5, false), false);
    }

    private static void allOthersAreNew() {
        String text = "4 'all others are new, without targets and hands': ";
        Tongueworks x = Due.bench(1, 2, 0, 3);
        Due.approve(x, 0, 9);
        Due.approve(x, 1, 8);
        x.cutAt(0, true);
        Due.is(text + "states", Due.states(x), "nna");
        Due.is(text + "no target", x.targetLength(0) + x.targetLength(1), -2);
        Due.is(text + "no hand", x.hold(1, 0) + x.hold(1, 1), 3);
        x.cutAt(0, false);
        Due.is(text + "joined again", Due.states(x), "na");
        Due.is(text + "what went does not come back", x.targetLength(0), -1);
        Due.is(text + "nor does its hand", x.hold(2, 0), 1);
        Due.is(text + "the other one is held still", x.letGo(0, 1), 0);
    }

    private static void greatestFiles() {
        String text = "80 codes, each a segment: ";
        Tongueworks x = new Tongueworks();
        x.begin();
        for (int i = 0; i < 80; i++) {
            x.add(0);
        }
        x.take();
        x.cutAt(0, true);
        Due.is(text + "7", x.segments(), 80);
        Due.is(text + "8", x.length(79), 1);
        Due.is(text + "9", x.sourceAt(79, 0), 0);
        Due.is(text + "10", x.stateOf(79), 'n');
        Due.fails(text + "8 the next one", Due.PLACE, () -> x.length(80));
        Due.is(text + "11", x.hold(3, 79), 1);
        Due.is(text + "13", x.write(3, 79, 5), 1);
        x.begin();
        for (int i = 0; i < 80; i++) {
            x.add(i == 0 ? 1 : 0);
        }
        Due.is(text + "4 all but one are kept", x.take(), 78);
        Due.is(text + "4 the earliest old ones, so not the last one", x.targetLength(78), -1);
        Due.is(text + "7 by rules alone", x.segments(), 79);
    }
}
