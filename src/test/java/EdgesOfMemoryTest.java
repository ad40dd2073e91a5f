/** The sentences of the document that name a boundary: entries, likeness, values, matches; promises 23 to 30. */
public final class EdgesOfMemoryTest {
    public static void main(String[] args) {
        atMost30Entries();
        theLeastAgeGoesFirst();
        renewedInAFullMemory();
        howOftenBeforeThat();
        alsoOneThatIsApproved();
        sameSourceAndSameAhead();
        zeroAtLeast();
        cutTowardsZero();
        costs();
        lessThan50();
        less10();
        plus1();
        orBothHaveNone();
        greaterThanZero();
        thenTheGreatestAge();
        bothWays();
        zeroForNone();
        whetherItWasForbidden();
        Due.close();
    }

    private static int[] row(int... codes) {
        return codes;
    }

    /** So many codes, of which the first so many are the word 2, and the others the word 1. */
    private static int[] ofTwos(int codes, int twos) {
        int[] row = new int[codes];
        for (int i = 0; i < codes; i++) {
            row[i] = i < twos ? 2 : 1;
        }
        return row;
    }

    private static String ages(Tongueworks x) {
        StringBuilder text = new StringBuilder();
        int entries = x.entries();
        for (int i = 0; i < entries; i++) {
            text.append(i == 0 ? "" : " ").append(x.ageOf(i));
        }
        return text.toString();
    }

    private static String range(int from, int to) {
        StringBuilder text = new StringBuilder();
        for (int i = from; i <= to; i++) {
            text.append(i == from ? "" : " ").append(i);
        }
        return text.toString();
    }

    /** The segment 30 of the full memory has no entry: approving it makes the 31st. */
    private static void makeAnother(Tongueworks x) {
        x.copy(0, 30);
        x.approve(0, 30);
    }

    private static void atMost30Entries() {
        String text = "24 'At most 30 entries are kept, numbered from 0': ";
        Tongueworks x = Scenes.fullMemory();
        Due.is(text + "30 are", x.entries(), 30);
        Due.is(text + "by their ages", ages(x), range(0, 29));
        Due.is(text + "the first is 0", x.bestFor(0), 0);
        Due.is(text + "the last is 29", x.bestFor(29), 29);
        makeAnother(x);
        Due.is(text + "not 31", x.entries(), 30);
        Due.fails(text + "no entry 30", Due.PLACE, () -> x.ageOf(30));
        Due.is(text + "the 31st is the last", x.bestFor(30), 29);
        Due.is(text + "the 31st has its target", x.fill(0, 30), 101);
        Due.is(text + "so it has", Due.target(x, 30), "31");
        Tongueworks y = Scenes.fullMemory();
        Due.fails(text + "one that can't be approved makes none", Due.UNSUPPORTED, () -> y.approve(0, 30));
        Due.is(text + "so none goes", ages(y), range(0, 29));
    }

    private static void theLeastAgeGoesFirst() {
        String text = "24 'the one with the least age goes first, and the others have numbers less by 1 behind it': ";
        Tongueworks first = Scenes.fullMemory();
        makeAnother(first);
        Due.is(text + "the first one", ages(first), range(1, 30));
        Due.fails(text + "it has gone", Due.MISSING, () -> first.bestFor(0));
        Due.is(text + "the one behind it", first.bestFor(1), 0);

        Tongueworks middle = Scenes.fullMemory();
        for (int i = 0; i < 10; i++) {
            middle.approve(0, i);
        }
        makeAnother(middle);
        Due.is(text + "one in the middle", ages(middle), range(30, 39) + " " + range(11, 29) + " 40");
        Due.is(text + "the one ahead of it", middle.bestFor(9), 9);
        Due.fails(text + "the one in the middle has gone", Due.MISSING, () -> middle.bestFor(10));
        Due.is(text + "the one behind the middle", middle.bestFor(11), 10);

        Tongueworks last = Scenes.fullMemory();
        for (int i = 0; i < 29; i++) {
            last.approve(0, i);
        }
        makeAnother(last);
        Due.is(text + "the last one", ages(last), range(30, 59));
        Due.fails(text + "the last one has gone", Due.MISSING, () -> last.bestFor(29));
        Due.is(text + "the last but one stays", last.bestFor(28), 28);
        Due.is(text + "in its place", last.bestFor(30), 29);
        last.copy(0, 29);
        last.approve(0, 29);
        Due.is(text + "what has gone is made anew", ages(last), range(31, 60));
    }

    private static void renewedInAFullMemory() {
        String text = "24 'if there are 30', and one is renewed: ";
        Tongueworks x = Scenes.fullMemory();
        x.approve(0, 0);
        Due.is(text + "the least age gets a new one", ages(x), "30 " + range(1, 29));
        x.clear(0, 29);
        x.write(0, 29, 77);
        x.approve(0, 29);
        Due.is(text + "the greatest age, too", ages(x), "30 " + range(1, 28) + " 31");
        x.clear(0, 29);
        Due.is(text + "its target", x.fill(0, 29) + x.targetAt(29, 0), 178);
        makeAnother(x);
        Due.is(text + "the least age then", ages(x), "30 " + range(2, 28) + " 31 32");
    }

    private static void howOftenBeforeThat() {
        String text = "25 'how often entries were made or renewed before that': ";
        Tongueworks x = Due.bench(1, 0, 2, 0);
        Due.approve(x, 0, 9);
        Due.is(text + "the first is 0", ages(x), "0");
        Due.approve(x, 1, 9);
        Due.is(text + "made", ages(x), "0 1");
        x.approve(0, 0);
        x.approve(0, 0);
        Due.is(text + "renewed twice", ages(x), "3 1");
        Scenes.answer(x, b -> b.approve(1, 0));
        Due.version(x, 1, 0);
        x.approve(0, 0);
        Due.is(text + "calls that throw, and versions, do not count", ages(x), "4 1");
        Due.is(text + "nor do those that get its target", followersMakeNone(), "0");
    }

    private static String followersMakeNone() {
        Tongueworks x = Due.bench(1, 0, 1, 0, 1, 0);
        Due.approve(x, 0, 9);
        return ages(x);
    }

    private static void alsoOneThatIsApproved() {
        String text = "18 24 'each time a segment is approved, also one that is approved already': ";
        Tongueworks x = Due.bench(1, 0);
        Due.approve(x, 0, 9);
        Due.is(text + "no others", x.approve(0, 0), 0);
        Due.is(text + "renewed", ages(x), "1");
        Due.version(x, 2, 0, 1, 0);
        Due.is(text + "approved still", x.stateOf(1), 'a');
        x.approve(0, 1);
        Due.is(text + "made, as another is ahead", ages(x), "1 2");
    }

    private static void sameSourceAndSameAhead() {
        String text = "24 'one with the same source and the same source ahead gets the target and a new age': ";
        Tongueworks x = Due.bench(1, 0, 2, 0, 1, 0, 2, 0, 300, 80, 300, 2, 0, 300, 81, 300, 2, 0);
        Due.approve(x, 1, 9);
        Due.approve(x, 3, 8);
        Due.is(text + "the same at another place", ages(x), "1");
        Due.is(text + "its target", x.fill(0, 1) + x.targetAt(1, 0), 109);
        Due.approve(x, 5, 7);
        Due.is(text + "another one ahead", ages(x), "1 2");
        Due.approve(x, 7, 6);
        Due.is(text + "another number word ahead", ages(x), "1 2 3");
        Due.approve(x, 0, 5);
        Due.approve(x, 2, 4);
        Due.is(text + "none ahead is not one ahead", ages(x), "1 2 3 4 5");
        Due.version(x, 1, 0);
        Due.approve(x, 0, 3);
        Due.is(text + "none ahead, and none ahead", ages(x), "1 2 3 6 5");
        Due.version(x, 1, 1, 0);
        Due.approve(x, 0, 3);
        Due.is(text + "another source", ages(x), "1 2 3 6 5 7");
        Due.version(x, 1);
        Due.approve(x, 0, 3);
        Due.is(text + "a source of fewer codes", ages(x), "1 2 3 6 5 7 8");
    }

    private static int likenessOf(int[] left, int... right) {
        Tongueworks x = Due.bench(left);
        int[] both = new int[left.length + 1 + right.length];
        System.arraycopy(left, 0, both, 0, left.length);
        both[left.length] = 300;
        System.arraycopy(right, 0, both, left.length + 1, right.length);
        Due.version(x, both);
        Due.is("23 the other way round", x.likeness(1, 0), x.likeness(0, 1));
        Due.is("23 'or the same one'", x.likeness(1, 1), 100);
        return x.likeness(0, 1);
    }

    private static void zeroAtLeast() {
        String text = "23 '100 less a loss, but 0 at least': ";
        Due.is(text + "one code for another", likenessOf(row(1), 2), 0);
        Due.is(text + "39 codes for others", likenessOf(ofTwos(39, 0), ofTwos(39, 39)), 0);
        Due.is(text + "one code, and 78 others", likenessOf(row(5), ofTwos(78, 0)), 0);
        Due.is(text + "one of 78", likenessOf(row(2), ofTwos(78, 1)), 2);
        Due.is(text + "the same", likenessOf(row(5), 5), 100);
    }

    private static void cutTowardsZero() {
        String text = "23 'this quotient cut towards 0': ";
        Due.is(text + "100 by 3", likenessOf(row(1, 1, 1), 1, 1, 2), 67);
        Due.is(text + "200 by 3", likenessOf(row(1, 1, 1), 1, 2, 2), 34);
        Due.is(text + "100 by 2", likenessOf(row(1, 1), 1, 2), 50);
        Due.is(text + "100 by 39", likenessOf(ofTwos(39, 0), ofTwos(39, 1)), 98);
        Due.is(text + "the greater number is the divisor", likenessOf(row(1, 1, 1), 1, 1, 1, 1), 75);
        Due.is(text + "also the other way round", likenessOf(row(1, 1, 1, 1), 1, 1, 1), 75);
        Due.is(text + "100 by 79", valueOf(ofTwos(79, 0), ofTwos(79, 1)), 99);
        Due.is(text + "100 by 80", valueOf(ofTwos(80, 0), ofTwos(80, 1)), 99);
    }

    private static void costs() {
        String text = "23 'a code put in or taken out 1': ";
        Due.is(text + "at the start", likenessOf(row(2, 3, 4), 1, 2, 3, 4), 75);
        Due.is(text + "at the end", likenessOf(row(2, 3, 4), 2, 3, 4, 1), 75);
        Due.is(text + "a number word", likenessOf(row(80, 1), 80, 81, 1), 67);
        Due.is(text + "one in and one out", likenessOf(row(1, 2, 3, 4), 2, 3, 4, 5), 50);
        Due.is(text + "cheaper than three in place", likenessOf(row(1, 2, 3, 4, 5), 2, 3, 4, 5, 1), 60);
        String place = "23 'a code in place of another one 1, but 0 for number words in place of one another': ";
        Due.is(place + "80 and 99", likenessOf(row(80, 99), 99, 80), 100);
        Due.is(place + "79 and 80", likenessOf(row(79, 1), 80, 1), 50);
        Due.is(place + "99 and 100", likenessOf(row(99, 1), 100, 1), 50);
        Due.is(place + "0 and 80", likenessOf(row(1, 0), 1, 80), 50);
        Due.is(place + "an opening and its closing", likenessOf(row(1, 100), 1, 200), 50);
        Due.is(place + "two tags", likenessOf(row(1, 100), 1, 101), 50);
    }

    /** The value of an entry with the source for a segment, both without a segment ahead. */
    private static int valueOf(int[] source, int... segment) {
        Tongueworks x = Due.bench(source);
        x.hold(0, 0);
        x.copy(0, 0);
        x.mend(0, 0);
        x.approve(0, 0);
        Due.version(x, segment);
        return x.valueFor(0, 0);
    }

    private static void lessThan50() {
        String text = "26 'but 0 if the likeness is less than 50': ";
        Due.is(text + "just 50", valueOf(row(1, 1), 1, 2), 50);
        Due.is(text + "50 by cutting 50.6", valueOf(ofTwos(79, 0), ofTwos(79, 40)), 50);
        Due.is(text + "49 by cutting 51.4", valueOf(ofTwos(35, 0), ofTwos(35, 18)), 0);
        Due.is(text + "51 by cutting 49.3", valueOf(ofTwos(75, 0), ofTwos(75, 37)), 51);
        Due.is(text + "0", valueOf(row(1, 1), 2, 2), 0);
        Due.is(text + "just 50 by the number of codes", valueOf(ofTwos(40, 0), ofTwos(80, 0)), 50);
        Due.is(text + "49 by the number of codes", valueOf(ofTwos(39, 0), ofTwos(80, 0)), 0);
        Due.is(text + "just 50, with other tags", valueOf(row(1, 1), 1, 100), 40);
        Due.is(text + "less, with other tags", valueOf(row(1, 1, 1), 1, 100, 200), 0);
        Due.is(text + "40 is a match", bestOf(row(1, 1), 1, 100), "0 0");
    }

    private static String bestOf(int[] source, int... segment) {
        Tongueworks x = Due.bench(source);
        x.hold(0, 0);
        x.copy(0, 0);
        x.approve(0, 0);
        Due.version(x, segment);
        return Scenes.answer(x, b -> b.bestFor(0)) + " " + Scenes.answer(x, b -> b.bestAnew(0));
    }

    /** As valueOf(), for sources that may be ill tagged: the target is written apart from them. */
    private static int taggedValueOf(int[] source, int[] target, int... segment) {
        Tongueworks x = Due.bench(source);
        Due.approve(x, 0, target);
        Due.version(x, segment);
        return x.valueFor(0, 0);
    }

    private static void less10() {
        String text = "26 'less 10 if its openings and closings are not the same codes as often': ";
        Due.is(text + "an opening more", valueOf(row(1, 2, 3), 1, 2, 3, 100), 65);
        Due.is(text + "a closing more", valueOf(row(1, 2, 3), 1, 2, 3, 209), 65);
        Due.is(text + "a number word more", valueOf(row(1, 2, 3), 1, 2, 3, 99), 75);
        int[] pair = row(100, 1, 2, 3, 4, 200);
        int[] tags = row(100, 200);
        Due.is(text + "the same ones", taggedValueOf(pair, tags, 100, 1, 2, 3, 5, 200), 84);
        Due.is(text + "the same ones in another order", taggedValueOf(pair, tags, 200, 1, 2, 3, 4, 100), 67);
        Due.is(text + "another opening", taggedValueOf(pair, tags, 101, 1, 2, 3, 4, 200), 74);
        Due.is(text + "another closing", taggedValueOf(pair, tags, 100, 1, 2, 3, 4, 209), 74);
        Due.is(text + "one less", taggedValueOf(pair, tags, 100, 1, 2, 3, 4), 74);
        Due.is(text + "another one of all, once only", taggedValueOf(pair, tags, 101, 1, 2, 3, 4, 201), 57);
        Due.is(text + "one twice", taggedValueOf(pair, tags, 100, 1, 2, 3, 4, 200, 200), 76);
    }

    private static void plus1() {
        String text = "26 'plus 1 if the likeness is 100, and its source ahead is that of the segment ahead now': ";
        Tongueworks x = Due.bench(5, 0, 80, 1, 0);
        Due.approve(x, 1, 80, 9);
        Due.is(text + "as it was", x.valueFor(1, 0), 101);
        Due.version(x, 5, 0, 81, 1, 0);
        Due.is(text + "100 by number words", x.valueFor(1, 0), 101);
        Due.version(x, 6, 0, 80, 1, 0);
        Due.is(text + "another one ahead", x.valueFor(1, 0), 100);
        Due.version(x, 5, 5, 0, 80, 1, 0);
        Due.is(text + "one code more ahead", x.valueFor(1, 0), 100);
        Due.version(x, 5, 0, 80, 2, 0);
        Due.is(text + "a likeness that is less", x.valueFor(1, 0), 67);
        Due.version(x, 80, 1, 0, 5, 0);
        Due.is(text + "none ahead now", x.valueFor(0, 0), 100);
        Due.version(x, 5, 300, 301, 80, 1, 0);
        Due.is(text + "ahead, but not to its end", x.valueFor(1, 0), 100);
        Due.version(x, 5, 0, 300, 301, 80, 1, 0);
        Due.is(text + "the segment ahead, over pieces", x.valueFor(1, 0), 101);
        Tongueworks y = Due.bench(7, 0, 1, 0);
        Due.approve(y, 1, 9);
        Due.version(y, ofTwos(80, 0));
        Due.approve(y, 0, 8);
        Due.version(y, ofTwos(80, 1));
        Due.is("26 'plus 1 if the likeness is 100': 99, and both have none ahead", y.valueFor(0, 1), 99);
    }

    private static void orBothHaveNone() {
        String text = "26 'or both have none': ";
        Tongueworks x = Due.bench(1, 0, 1, 0);
        Due.approve(x, 0, 9);
        Due.is(text + "both have none", x.valueFor(0, 0), 101);
        Due.is(text + "only the entry has none", x.valueFor(1, 0), 100);
        Due.approve(x, 1, 8);
        Due.is(text + "only the segment has none", x.valueFor(0, 1), 100);
        Due.is(text + "neither has none", x.valueFor(1, 1), 101);
        Due.version(x, 300, 301, 1, 0);
        Due.is(text + "pieces ahead are none", x.valueFor(0, 0), 101);
        x.cutAt(2, true);
        x.cutAt(2, false);
        Due.is(text + "none ahead behind a cut, too", x.valueFor(0, 0), 101);
    }

    private static void greaterThanZero() {
        String text = "27 28 'the greatest value, greater than 0': ";
        String none = "NoSuchElementException NoSuchElementException";
        Due.is(text + "no entries", bestOfNew(), none);
        Due.is(text + "one of 0", bestOf(row(1, 1, 1), 1, 2, 2), none);
        Due.is(text + "one of 50", bestOf(row(1, 1), 1, 2), "0 0");
        Tongueworks x = Due.bench(1, 1, 300, 2, 2, 300, 3, 3);
        Due.approve(x, 0, 9);
        Due.approve(x, 1, 9);
        Due.is(text + "none of two", Scenes.answer(x, b -> b.bestFor(2)), "NoSuchElementException");
        Due.is(text + "35 none counts 0", x.meanValue(), (101.0 + 101.0) / 3.0);
    }

    private static String bestOfNew() {
        Tongueworks x = Due.bench(1);
        return Scenes.answer(x, b -> b.bestFor(0)) + " " + Scenes.answer(x, b -> b.bestAnew(0));
    }

    private static void best(String what, Tongueworks x, int segment, int due) {
        Due.is("27 " + what, x.bestFor(segment), due);
        Due.is("28 " + what, x.bestAnew(segment), due);
        Due.is("17 " + what, x.hold(0, segment) > 0, true);
        Due.is("17 the value of it, " + what, x.fill(0, segment), x.valueFor(segment, due));
    }

    private static void thenTheGreatestAge() {
        String text = "'then the greatest age': ";
        Tongueworks x = Due.bench(1, 2, 300, 1, 3, 300, 1, 4, 300, 1, 5);
        Due.approve(x, 0, 9);
        Due.approve(x, 1, 8);
        Due.approve(x, 2, 7);
        best(text + "the last made of three", x, 3, 2);
        Due.is(text + "its target", Due.target(x, 3), "7");
        x.approve(0, 0);
        best(text + "the first one is renewed", x, 3, 0);
        Due.is(text + "its target then", Due.target(x, 3), "9");
        x.approve(0, 1);
        best(text + "the one between is renewed", x, 3, 1);
        best("the greatest value is ahead of the age", x, 0, 0);
        String context = "a value of 101 is ahead of one of 100: ";
        Tongueworks y = Due.bench(5, 0, 1, 0, 1, 0, 6, 0);
        Due.approve(y, 1, 9);
        Due.approve(y, 2, 8);
        best(context + "the older one", y, 1, 0);
        best(context + "the newer one", y, 2, 1);
        Due.version(y, 6, 0, 1, 0);
        best(context + "neither, so the newer one", y, 1, 1);
        twoOf101();
        String tags = "other tags cost 10: ";
        Tongueworks z = Due.bench(1, 2, 3, 4, 100, 200, 300, 1, 2, 3, 9, 8, 7, 300, 1, 2, 3, 4, 5, 6);
        Due.approve(z, 0, 100, 200);
        Due.approve(z, 1, 9);
        Due.is(tags + "the value of the one", z.valueFor(2, 0), 57);
        Due.is(tags + "the value of the other one", z.valueFor(2, 1), 50);
        best(tags + "but it is ahead still", z, 2, 0);
    }

    /** Two entries can have the value 101 if they differ in number words alone. */
    private static void twoOf101() {
        String text = "two of 101, the greatest age: ";
        Tongueworks x = new Tongueworks();
        for (int number = 80; number < 84; number++) {
            Due.version(x, number, 5);
            Due.approve(x, 0, number);
            best(text + "the last made, " + number, x, 0, number - 80);
        }
        for (int number = 80; number < 84; number++) {
            Due.version(x, number, 5);
            Due.approve(x, 0, number);
            Due.version(x, 99, 5);
            best(text + "the last renewed, " + number, x, 0, number - 80);
            Due.is(text + "its value, " + number, x.valueFor(0, number - 80), 101);
        }
    }

    /** An entry may be passed over by its number of codes only if it can't be the best match by this. */
    private static void bothWays() {
        String text = "28 'the same, found by going through all entries one by one': ";
        for (int codes = 15; codes <= 80; codes++) {
            Tongueworks x = Due.bench(ofTwos(40, 20));
            Due.approve(x, 0, 9);
            Due.version(x, ofTwos(codes, 0));
            Due.approve(x, 0, 8);
            Due.version(x, ofTwos(40, 0));
            Due.is(text + codes, x.bestFor(0), x.bestAnew(0));
            Due.is(text + "it is the one by number, " + codes, x.bestFor(0), codes >= 20 ? 1 : 0);
            Due.is(text + "36 agree, " + codes, x.isSound(), true);
        }
    }

    private static void zeroForNone() {
        String text = "29 'the wanted word, 1 to 79, or 0 for none': ";
        Tongueworks x = Due.bench(1);
        Due.target(x, 0, 5);
        Due.is(text + "none at first", x.want(1, 79), 0);
        Due.is(text + "79", x.want(1, 1), 79);
        Due.is(text + "1", x.want(1, 0), 1);
        Due.is(text + "none", x.want(1, 0), 0);
        Due.is(text + "none is missing", x.faults(0), 0);
        x.want(1, 5);
        Due.is(text + "in place of another one", x.want(1, 6), 5);
        Due.is(text + "the one before does not count", x.faults(0), 16);
        Due.fails(text + "80", Due.ARGUMENT, () -> x.want(1, 80));
        Due.fails(text + "-1", Due.ARGUMENT, () -> x.want(1, -1));
        Due.is(text + "as it was", x.want(1, 0), 6);
    }

    private static void whetherItWasForbidden() {
        String text = "30 'whether it was': ";
        Tongueworks x = new Tongueworks();
        for (int word : new int[] {1, 79}) {
            Due.is(text + "not at first", x.forbid(word, false), false);
            Due.is(text + "not yet", x.forbid(word, true), false);
            Due.is(text + "already", x.forbid(word, true), true);
            Due.is(text + "until now", x.forbid(word, false), true);
            Due.is(text + "no more", x.forbid(word, false), false);
        }
        x.forbid(1, true);
        Due.is(text + "a forbidden word is no exception", x.setException(1, false), false);
        Due.is(text + "nor has it a wanted word", x.want(1, 0), 0);
    }
}
