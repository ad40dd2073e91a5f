/** The sentences of the document that name a boundary: hands, targets, tags, fitting, faults; promises 11 to 22. */
public final class EdgesOfHandsTest {
    public static void main(String[] args) {
        hands();
        howManyItHolds();
        atMost24Codes();
        upTo24Codes();
        emptyIfThereIsNone();
        minusOneIfThereWasNone();
        wellTagged();
        asOften();
        closingsTakenAway();
        moreThanInTheSource();
        ofOneSegmentAlone();
        closedAtTheEnd();
        asManyAsAreMissing();
        the25thIsLeftOut();
        ifTheTargetChanges();
        aValueOf100OrMore();
        asManyNumberWords();
        justOnePlace();
        leastAndGreatestWord();
        fittedIsMended();
        othersGetItsTarget();
        onlyTheFaults1And2();
        apartGoes();
        faultsOneByOne();
        twicePlus2();
        lastCodes();
        Due.close();
    }

    private static int[] row(int... codes) {
        return codes;
    }

    private static int[] times(int count, int code, int... behind) {
        int[] codes = new int[count + behind.length];
        for (int i = 0; i < codes.length; i++) {
            codes[i] = i < count ? code : behind[i - count];
        }
        return codes;
    }

    private static void hands() {
        String text = "11 to 18 'the hand, 0 to 3': ";
        for (int i = 0; i < 4; i++) {
            int hand = i;
            Tongueworks x = Due.bench(1, 0, 2, 0);
            Due.is(text + "11 by " + i, x.hold(hand, 1), 1);
            Due.is(text + "13 by " + i, x.write(hand, 1, 5), 1);
            Due.is(text + "14 by " + i, x.copy(hand, 1), 2);
            Due.is(text + "16 by " + i, x.mend(hand, 1), 2);
            Due.is(text + "18 by " + i, x.approve(hand, 1), 0);
            Due.is(text + "17 by " + i, x.fill(hand, 1), 101);
            Due.is(text + "15 by " + i, x.clear(hand, 1), 2);
            Due.is(text + "12 by " + i, x.letGo(hand, 1), 0);
            Due.fails(text + "12 held no more by " + i, Due.STATE, () -> x.letGo(hand, 1));
            Due.is(text + "by another one then", x.hold((hand + 1) % 4, 1), 1);
            Due.fails(text + "no more by " + i, Due.STATE, () -> x.hold(hand, 1));
        }
    }

    private static void howManyItHolds() {
        String text = "11 12 'how many segments it holds': ";
        Tongueworks x = Due.bench(1, 0, 2, 0, 3, 0);
        for (int i = 0; i < 3; i++) {
            Due.is(text + "one more", x.hold(2, i), i + 1);
        }
        Due.is(text + "all, and one of them again", x.hold(2, 0), 3);
        for (int i = 0; i < 3; i++) {
            Due.is(text + "one less", x.letGo(2, i), 2 - i);
        }
        x.hold(0, 0);
        Due.is(text + "those of others do not count", x.hold(3, 1), 1);
        Due.is(text + "nor do they then", x.letGo(3, 1), 0);
        x.hold(0, 1);
        Due.version(x, 2, 0);
        Due.is(text + "those that went do not count", x.hold(0, 0), 1);
    }

    private static void atMost24Codes() {
        String text = "13 'a row of at most 24 codes', 'or the target has 24 codes': ";
        Tongueworks x = Due.bench(1, 0);
        x.hold(0, 0);
        for (int i = 1; i <= 24; i++) {
            Due.is(text + "code by code", x.write(0, 0, i), i);
        }
        Due.fails(text + "the 25th", Due.STATE, () -> x.write(0, 0, 25));
        Due.is(text + "20 all", x.targetLength(0), 24);
        Due.is(text + "21 the 24th", x.targetAt(0, 23), 24);
        Due.fails(text + "21 the 25th", Due.PLACE, () -> x.targetAt(0, 24));
        Due.is(text + "18 24 are approved", x.approve(0, 0), 0);
        Due.fails(text + "the 25th of one approved", Due.STATE, () -> x.write(0, 0, 25));
        Due.is(text + "approved still", x.stateOf(0), 'a');
        Due.is(text + "15 24 are cleared", x.clear(0, 0), 24);
        Due.is(text + "17 24 are filled", x.fill(0, 0) + x.targetLength(0), 125);
        Due.is(text + "the 24th of an entry", x.targetAt(0, 23), 24);
        x.clear(0, 0);
        Due.is(text + "there is room again", x.write(0, 0, 5), 1);
        Tongueworks y = Due.bench(times(3, 1));
        Due.fails(text + "24 of another one", Due.STATE, () -> y.write(0, 0, 5));
    }

    private static void upTo24Codes() {
        String text = "14 'Copies the source of a segment to its target, up to 24 codes': ";
        for (int count : new int[] {1, 23, 24, 25, 80}) {
            Tongueworks x = Due.bench(times(count - 1, 5, 6));
            x.hold(0, 0);
            Due.is(text + count, x.copy(0, 0), Math.min(count, 24));
            Due.is(text + count + ", its last code", x.targetAt(0, Math.min(count, 24) - 1), count > 24 ? 5 : 6);
            Due.is(text + count + ", once more", x.copy(0, 0), Math.min(count, 24));
            Due.is(text + count + ", the source stays", x.length(0), count);
            Due.is(text + count + ", put together", x.together(), Math.min(count, 24));
        }
    }

    private static void emptyIfThereIsNone() {
        String text = "13 'which is empty ahead of this if there is none': ";
        Tongueworks x = Due.bench(1, 2, 3);
        x.hold(0, 0);
        Due.is(text + "the first code", x.write(0, 0, 9), 1);
        Due.is(text + "it alone", Due.target(x, 0), "9");
        x.write(0, 0, 8);
        x.clear(0, 0);
        Due.is(text + "the first code behind clear()", x.write(0, 0, 7), 1);
        Due.is(text + "nothing of the one before", Due.target(x, 0), "7");
    }

    private static void minusOneIfThereWasNone() {
        String text = "15 20 '-1 if there was none', '-1 if there is none': ";
        Tongueworks x = Due.bench(200, 1);
        x.hold(0, 0);
        Due.is(text + "20 at first", x.targetLength(0), -1);
        Due.is(text + "15 at first", x.clear(0, 0), -1);
        Due.is(text + "15 again", x.clear(0, 0), -1);
        Due.is(text + "10 new", x.stateOf(0), 'n');
        x.write(0, 0, 201);
        Due.is(text + "16 an empty one", x.mend(0, 0), 0);
        Due.is(text + "20 an empty one is one", x.targetLength(0), 0);
        Due.fails(text + "21 an empty one has no code", Due.PLACE, () -> x.targetAt(0, 0));
        Due.is(text + "10 an empty one is a draft", x.stateOf(0), 'd');
        Due.is(text + "31 an empty one is put together", x.together(), 0);
        Due.is(text + "16 an empty one is mended", x.mend(0, 0), 0);
        Due.is(text + "15 an empty one is cleared", x.clear(0, 0), 0);
        Due.is(text + "15 then there is none", x.clear(0, 0), -1);
        Due.is(text + "20 then there is none", x.targetLength(0), -1);
        Due.is(text + "31 then it is the source", x.together(), 2);
    }

    /** Tells whether the row is well tagged, by the fault 1. */
    private static boolean isWell(int... target) {
        Tongueworks x = Due.bench(1);
        Due.target(x, 0, target);
        return (x.faults(0) & 1) == 0;
    }

    private static void wellTagged() {
        String text = "22 'if each closing closes the latest opening that is not closed, of the same tag': ";
        Due.is(text + "no tags", isWell(1, 0, 99), true);
        Due.is(text + "a closing, and no opening", isWell(200), false);
        Due.is(text + "a closing ahead of its opening", isWell(200, 100), false);
        Due.is(text + "a pair", isWell(109, 209), true);
        Due.is(text + "a second closing", isWell(100, 200, 200), false);
        Due.is(text + "crossed", isWell(100, 101, 200, 201), false);
        Due.is(text + "nested", isWell(100, 101, 201, 200), true);
        Due.is(text + "nested in the same tag", isWell(100, 100, 200, 200), true);
        Due.is(text + "of another tag", isWell(100, 201), false);
        Due.is(text + "twelve deep", isWell(100, 100, 100, 100, 100, 100, 100, 100, 100, 100, 100, 100,
                200, 200, 200, 200, 200, 200, 200, 200, 200, 200, 200, 200), true);
        String open = "22 'and all openings are closed': ";
        Due.is(open + "one is not", isWell(100), false);
        Due.is(open + "one of two is not", isWell(100, 100, 200), false);
        Due.is(open + "the outer one is not", isWell(100, 101, 201), false);
        Tongueworks x = Due.bench(200, 300, 1);
        x.hold(0, 0);
        x.write(0, 0, 201);
        x.mend(0, 0);
        Due.is("22 an empty target is well tagged", x.faults(0) & 1, 0);
    }

    /** Tells whether the target has the tags of the source, by the fault 2. */
    private static boolean hasTags(int[] source, int... target) {
        Tongueworks x = Due.bench(source);
        Due.target(x, 0, target);
        return (x.faults(0) & 2) == 0;
    }

    private static void asOften() {
        String text = "22 'if both have each opening and each closing as often': ";
        Due.is(text + "none", hasTags(row(1), 2), true);
        Due.is(text + "one more opening", hasTags(row(100, 200), 100, 100, 200), false);
        Due.is(text + "one more closing", hasTags(row(100, 200), 100, 200, 200), false);
        Due.is(text + "one opening less", hasTags(row(100, 100, 200), 100, 200), false);
        Due.is(text + "one closing less", hasTags(row(100, 200, 200), 100, 200), false);
        Due.is(text + "another order", hasTags(row(100, 101, 201, 200), 201, 200, 101, 100), true);
        Due.is(text + "an opening is no closing", hasTags(row(100), 200), false);
        Due.is(text + "the tag 9 is not the tag 8", hasTags(row(109, 209), 108, 208), false);
        Due.is(text + "all tags", hasTags(
                row(100, 101, 102, 103, 104, 105, 106, 107, 108, 109, 200, 201, 202, 203, 204, 205, 206, 207, 208, 209),
                209, 208, 207, 206, 205, 204, 203, 202, 201, 200, 109, 108, 107, 106, 105, 104, 103, 102, 101, 100),
                true);
    }

    private static String mended(int[] source, int... target) {
        Tongueworks x = Due.bench(source);
        Due.target(x, 0, target);
        int codes = x.mend(0, 0);
        Due.is("16 the number of codes", codes, x.targetLength(0));
        return Due.target(x, 0);
    }

    private static void closingsTakenAway() {
        String text = "16 'closings that do not close the latest open one are taken away': ";
        Due.is(text + "none is open", mended(row(100, 200), 200, 5, 100, 200), "5 100 200");
        Due.is(text + "another one is open", mended(row(100, 101, 201, 200), 100, 201, 5), "100 5 200 101 201");
        Due.is(text + "an outer one is open", mended(row(100, 101, 201, 200), 100, 101, 200, 5, 201),
                "100 101 5 201 200");
        Due.is(text + "it is closed already", mended(row(100, 200, 100, 200), 100, 200, 200, 5), "100 200 5 100 200");
        Due.is(text + "one taken away does not count", mended(row(100, 200), 200, 200, 100, 5, 200, 6), "100 5 200 6");
    }

    private static void moreThanInTheSource() {
        String text = "16 'openings and closings of which there are more than in the source, up to here, too': ";
        Due.is(text + "none in the source", mended(row(1), 100, 5, 200), "5");
        Due.is(text + "one in the source, two here", mended(row(100, 200), 100, 200, 5, 100, 6, 200), "100 200 5 6");
        Due.is(text + "two in the source, three here",
                mended(row(100, 200, 100, 200), 100, 200, 100, 200, 100, 200), "100 200 100 200");
        Due.is(text + "two in the source, two here",
                mended(row(100, 200, 100, 200), 100, 100, 200, 200), "100 100 200 200");
        Due.is(text + "a closing too many, of an open one",
                mended(row(100, 100, 200), 100, 100, 200, 5, 200, 6), "100 100 200 5 6 200");
        Due.is(text + "a closing that is in the source, and one that is not",
                mended(row(100, 109, 209), 100, 109, 5, 209, 200, 6), "100 109 5 209 6 200");
        Due.is(text + "an inner opening too many", mended(row(100, 200), 100, 100, 5, 200, 6, 200), "100 5 200 6");
        Due.is(text + "number words are no tags", mended(row(1), 80, 99, 80), "80 99 80");
    }

    private static void ofOneSegmentAlone() {
        String text = "16 'the source' is that of the segment, whatever was mended before: ";
        Tongueworks x = Due.bench(100, 200, 109, 209, 100, 300, 7, 300, 100, 200);
        Due.target(x, 0, 5);
        Due.is(text + "all are missing", x.mend(0, 0), 7);
        Due.target(x, 1, 5);
        Due.is(text + "none is in the source", x.mend(0, 1), 1);
        Due.target(x, 1, 100, 5, 200, 109, 209);
        Due.is(text + "all are too many", x.mend(0, 1), 1);
        Due.target(x, 2, 100, 200, 100, 5, 200);
        Due.is(text + "one pair is too many", x.mend(0, 2), 3);
        Due.is(text + "its target", Due.target(x, 2), "100 200 5");
        Due.target(x, 0, 100, 200, 5);
        Due.is(text + "one opening and two pairs", x.mend(0, 0), 7);
        Due.is(text + "its target then", Due.target(x, 0), "100 200 5 100 200 109 209");
        Tongueworks y = Due.bench(100, 100, 200, 300, 7, 100);
        Due.target(y, 0, 5);
        y.mend(0, 0);
        Due.target(y, 1, 100, 200, 5);
        y.mend(0, 1);
        Due.is(text + "no closing is in the source", Due.target(y, 1), "100 5 200");
    }

    private static void closedAtTheEnd() {
        String text = "16 'then, at its end, all that are open are closed, the latest one first': ";
        Due.is(text + "one", mended(row(100, 200), 100, 5, 0), "100 5 0 200");
        Due.is(text + "three",
                mended(row(100, 200, 105, 205, 109, 209), 105, 100, 109, 5), "105 100 109 5 209 200 205");
        Due.is(text + "also more than in the source", mended(row(100, 5), 100), "100 200");
        Due.is(text + "those that are closed are not",
                mended(row(100, 101, 201, 200), 101, 201, 100), "101 201 100 200");
    }

    private static void asManyAsAreMissing() {
        String text = "16 'for each tag by rising numbers', 'as many as are missing to as many as openings': ";
        Due.is(text + "none", mended(row(100, 200), 100, 200), "100 200");
        Due.is(text + "the tags 0 and 9", mended(row(109, 209, 100, 200), 5), "5 100 200 109 209");
        Due.is(text + "three of one", mended(row(104, 204, 104, 204, 104, 204), 5), "5 104 204 104 204 104 204");
        Due.is(text + "one of three", mended(row(104, 204, 104, 204, 104, 204), 104, 204, 104, 5, 204),
                "104 204 104 5 204 104 204");
        Due.is(text + "closings in the source do not count", mended(row(204, 204), 5), "5");
        Due.is(text + "openings alone do", mended(row(104, 104), 5), "5 104 204 104 204");
        Due.is(text + "to an empty target", mended(row(100, 200), 209), "100 200");
    }

    private static String ofWords(int count, String behind) {
        StringBuilder text = new StringBuilder();
        for (int i = 0; i < count; i++) {
            text.append(i == 0 ? "" : " ").append(5);
        }
        return text.append(behind.isEmpty() ? "" : " ").append(behind).toString();
    }

    private static void the25thIsLeftOut() {
        String text = "16 'What would be the 25th code is left out': ";
        int[] pair = row(100, 1, 200);
        Due.is(text + "just 24 with the pair", mended(pair, times(22, 5)), ofWords(22, "100 200"));
        Due.is(text + "the closing is the 25th", mended(pair, times(23, 5)), ofWords(23, "100"));
        Due.is(text + "the opening is the 25th", mended(pair, times(24, 5)), ofWords(24, ""));
        Due.is(text + "a closing is the 24th", mended(pair, times(22, 5, 100)), ofWords(22, "100 200"));
        Due.is(text + "a closing is the 25th", mended(pair, times(23, 5, 100)), ofWords(23, "100"));
        int[] nested = row(100, 101, 1, 201, 200);
        Due.is(text + "the second closing is the 25th", mended(nested, times(21, 5, 100, 101)),
                ofWords(21, "100 101 201"));
        Due.is(text + "both closings are left out", mended(nested, times(22, 5, 100, 101)), ofWords(22, "100 101"));
        Due.is(text + "the second pair is left out", mended(nested, times(22, 5)), ofWords(22, "100 200"));
        Due.is(text + "half of the second pair", mended(nested, times(21, 5)), ofWords(21, "100 200 101"));
        Due.is(text + "what is taken away makes room", mended(pair, times(22, 5, 201, 202)), ofWords(22, "100 200"));
        Due.is(text + "ten pairs and words", mended(
                row(100, 101, 102, 103, 104, 105, 106, 107, 108, 109), times(5, 5)),
                ofWords(5, "100 200 101 201 102 202 103 203 104 204 105 205 106 206 107 207 108 208 109"));
        String fitted = "17 'What would be the 25th code is left out': ";
        Tongueworks x = Due.bench(1, 2, 3, 4, 5, 0);
        Due.approve(x, 0, times(23, 5));
        Due.version(x, 100, 1, 2, 3, 4, 5, 200, 0);
        x.hold(0, 0);
        Due.is(fitted + "the value", x.fill(0, 0), 65);
        Due.is(fitted + "the target", Due.target(x, 0), ofWords(23, "100"));
        Due.fails(fitted + "so it can't be approved", Due.UNSUPPORTED, () -> x.approve(0, 0));
    }

    private static void ifTheTargetChanges() {
        String text = "16 'the state becomes 'd' if the target changes': ";
        Tongueworks x = Due.bench(100, 1, 200, 0, 100, 1, 200, 0);
        Due.approve(x, 0, 100, 200);
        x.mend(0, 0);
        Due.is(text + "an approved one that does not", x.stateOf(0), 'a');
        x.hold(0, 1);
        x.mend(0, 1);
        Due.is(text + "a translated one that does not", x.stateOf(1), 't');
        Due.is(text + "a code less", mendedState(row(1), row(9, 200)), "d9");
        Due.is(text + "another code in its place", mendedState(row(100, 200), row(200, 100)), "d100 200");
        Due.is(text + "a code more", mendedState(row(100, 200), row(100)), "d100 200");
        Tongueworks z = Due.bench(100, 1, 200);
        Due.target(z, 0, times(24, 5));
        z.mend(0, 0);
        Due.is(text + "one of 24 that lacks tags does not change", Due.target(z, 0), ofWords(24, ""));
    }

    private static String mendedState(int[] source, int[] target) {
        Tongueworks x = Due.bench(source);
        Due.target(x, 0, target);
        x.mend(0, 0);
        return x.stateOf(0) + Due.target(x, 0);
    }

    private static void aValueOf100OrMore() {
        String text = "17 'becomes 't' for a value of 100 or more, and otherwise 'd'': ";
        int[] long80 = times(79, 5, 6);
        Tongueworks x = Due.bench(times(79, 5, 7));
        Due.approve(x, 0, 9);
        Due.version(x, long80);
        x.hold(0, 0);
        Due.is(text + "99", x.fill(0, 0), 99);
        Due.is(text + "99 is a draft", x.stateOf(0), 'd');
        Due.version(x, times(79, 5, 7));
        x.hold(0, 0);
        Due.is(text + "101", x.fill(0, 0), 101);
        Due.is(text + "101 is translated", x.stateOf(0), 't');
        Tongueworks y = Due.bench(1, 80, 300, 2, 300, 1, 81);
        Due.approve(y, 0, 9, 80);
        y.hold(0, 2);
        Due.is(text + "100", y.fill(0, 2), 100);
        Due.is(text + "100 is translated", y.stateOf(2), 't');
        Due.is(text + "100, fitted", Due.target(y, 2), "9 81");
        String less = "17 'the value of the match': ";
        Tongueworks z = Due.bench(1, 2);
        Due.approve(z, 0, 9);
        Due.version(z, 1, 100);
        z.hold(0, 0);
        Due.is(less + "the least that there is", z.fill(0, 0), 40);
        Due.is(less + "a draft", Due.target(z, 0), "9 100 200");
    }

    /** The target of the entry for one source, fitted to another one; 1, 2 and 3 have the wanted words 11, 12, 12. */
    private static String fitted(int[] source, int[] target, int... segment) {
        Tongueworks x = new Tongueworks();
        x.want(1, 11);
        x.want(2, 12);
        x.want(3, 12);
        Due.version(x, source);
        Due.approve(x, 0, target);
        Due.version(x, segment);
        x.hold(0, 0);
        x.fill(0, 0);
        return Due.target(x, 0);
    }

    private static void asManyNumberWords() {
        String text = "17 'if both sources have as many number words': ";
        Due.is(text + "none", fitted(row(4, 5), row(80), 4, 5), "80");
        Due.is(text + "one and one", fitted(row(4, 80), row(80), 4, 99), "99");
        Due.is(text + "one and two", fitted(row(4, 80, 5), row(80), 4, 99, 98), "80");
        Due.is(text + "two and one", fitted(row(4, 80, 81), row(80, 81), 4, 99, 5), "80 81");
        Due.is(text + "the first code, and the last one", fitted(row(80, 4, 5, 6), row(80), 4, 5, 6, 90), "90");
        Due.is(text + "the last code, and the first one", fitted(row(4, 5, 6, 80), row(80), 90, 4, 5, 6), "90");
        Due.is(text + "79 and 100 are no number words",
                fitted(row(79, 80, 100, 200), row(79, 80, 100, 200), 79, 81, 100, 200), "79 81 100 200");
        String kth = "17 'of several the first such k, becomes the k-th one of the segment's source': ";
        Due.is(kth + "the last of three", fitted(row(80, 81, 82), row(82), 90, 91, 92), "92");
        Due.is(kth + "the first of three alike", fitted(row(80, 80, 80), row(80), 90, 91, 92), "90");
        Due.is(kth + "one that is alike behind others", fitted(row(81, 80, 80), row(80, 81), 90, 91, 92), "91 90");
        Due.is(kth + "words between do not count", fitted(row(4, 80, 5, 81), row(81), 4, 90, 5, 91), "91");
        Due.is(kth + "none of the entry's source", fitted(row(80, 4), row(81, 90), 90, 4), "81 90");
    }

    private static void justOnePlace() {
        String text = "17 'and unlike codes at just one place, where unlike number words count, too': ";
        Due.is(text + "no place", fitted(row(1, 5), row(11), 1, 5), "11");
        Due.is(text + "the first place", fitted(row(1, 5, 6), row(11), 2, 5, 6), "12");
        Due.is(text + "the last place", fitted(row(6, 5, 1), row(11), 6, 5, 2), "12");
        Due.is(text + "two places", fitted(row(1, 5, 6, 1), row(11), 2, 5, 6, 2), "11");
        Due.is(text + "an unlike number word, too", fitted(row(1, 80, 5), row(11, 80), 2, 81, 5), "11 81");
        Due.is(text + "the same number word", fitted(row(1, 80, 5), row(11, 80), 2, 80, 5), "12 80");
        Due.is(text + "one code more", fitted(row(1, 5, 6), row(11), 2, 5, 6, 7), "11");
        Due.is(text + "a number word alone", fitted(row(80, 5), row(80, 11), 81, 5), "81 11");
        String both = "17 'and both of these are words with a wanted word': ";
        Due.is(both + "the entry's is none", fitted(row(4, 5), row(11), 2, 5), "11");
        Due.is(both + "the segment's is none", fitted(row(1, 5), row(11), 4, 5), "11");
        Due.is(both + "the entry's is none, so no end becomes a word", fitted(row(4, 5), row(11, 0), 2, 5), "11 0");
        Due.is(both + "the segment's is none, so no word becomes an end", fitted(row(1, 5), row(11, 0), 4, 5), "11 0");
        Due.is(both + "an end is no word", fitted(row(1, 5), row(11), 0, 5), "11");
        Due.is(both + "a number word is no word", fitted(row(1, 80), row(11, 80), 80, 80), "11 80");
        Due.is(both + "the same wanted word for both", fitted(row(2, 5), row(12, 11), 3, 5), "12 11");
        String each = "17 'each word of the target that is the wanted one of the entry's code': ";
        Due.is(each + "none is", fitted(row(1, 5), row(1, 12), 2, 5), "1 12");
        Due.is(each + "all are", fitted(row(1, 5), row(11, 11, 11), 2, 5), "12 12 12");
        Due.is(each + "the first and the last", fitted(row(1, 5), row(11, 7, 11), 2, 5), "12 7 12");
    }

    /** The least and the greatest word, as wanted ones and as those that have them. */
    private static void leastAndGreatestWord() {
        String text = "17 'words with a wanted word', 1 and 79: ";
        Tongueworks x = new Tongueworks();
        x.want(1, 79);
        x.want(79, 1);
        Due.version(x, 1, 5, 300, 79, 5);
        Due.approve(x, 0, 79, 1, 0);
        x.hold(0, 1);
        Due.is(text + "the value", x.fill(0, 1), 50);
        Due.is(text + "1 and then 79", Due.target(x, 1), "1 1 0");
        Due.version(x, 79, 5);
        Due.approve(x, 0, 1, 79, 0);
        Due.version(x, 1, 5, 5);
        x.hold(0, 0);
        x.fill(0, 0);
        Due.is(text + "another number of codes", Due.target(x, 0), "79 1 0");
        x.want(1, 78);
        Due.version(x, 1, 7);
        Due.approve(x, 0, 78, 78);
        Due.version(x, 79, 7);
        x.hold(0, 0);
        x.fill(0, 0);
        Due.is(text + "the wanted word at the time", Due.target(x, 0), "1 1");
        x.want(79, 0);
        x.fill(0, 0);
        Due.is(text + "none then", Due.target(x, 0), "78 78");
    }

    private static void fittedIsMended() {
        String text = "17 'then it is mended': ";
        Due.is(text + "nothing to mend", fitted(row(100, 1, 200), row(100, 9, 200), 100, 2, 200), "100 9 200");
        Due.is(text + "other tags", fitted(row(100, 4, 5, 6, 200), row(100, 9, 200), 101, 4, 5, 6, 201), "9 101 201");
        Due.is(text + "to an empty one", fittedToNothing(), "");
        String old = "17 'gives a segment the target', in place of a longer one: ";
        Tongueworks x = Due.bench(1, 0);
        Due.approve(x, 0, 9);
        x.write(0, 0, 8);
        x.fill(0, 0);
        Due.is(old + "its codes", Due.target(x, 0), "9");
        x.write(0, 0, 7);
        x.fill(0, 0);
        Due.is(old + "the entry keeps its own target", Due.target(x, 0), "9");
    }

    private static String fittedToNothing() {
        Tongueworks x = Due.bench(100, 4, 5, 6, 200);
        Due.approve(x, 0, 100, 200);
        Due.version(x, 4, 5, 6);
        x.hold(0, 0);
        Due.is("17 an empty target is one", x.fill(0, 0) + x.targetLength(0), 50);
        return Due.target(x, 0);
    }

    private static void othersGetItsTarget() {
        String text = "18 'held by none, and is not 'a' or told as apart': ";
        Tongueworks x = Due.bench(1, 0, 1, 0, 1, 0, 1, 0, 1, 0, 1, 300, 80, 300, 81);
        Due.is(text + "all that are free", Due.approve(x, 2, 9), 4);
        Due.is(text + "ahead and behind", Due.states(x), "ttattnnn");
        Due.is(text + "a source of fewer codes is another one", x.targetLength(5), -1);
        x.hold(0, 0);
        Due.is(text + "one held by the same hand", x.approve(0, 2), 3);
        x.hold(3, 1);
        x.setApart(3, true);
        Due.is(text + "one held by another, one apart", x.approve(0, 2), 1);
        x.approve(0, 0);
        x.letGo(0, 0);
        Due.is(text + "one that is approved", Due.approve(x, 2, 8), 1);
        Due.is(text + "so these keep theirs", Due.target(x, 0) + Due.target(x, 1) + Due.target(x, 3), "999");
        Due.is(text + "and this does not", Due.target(x, 4), "8");
        Due.is(text + "none", Due.approve(x, 5, 7), 0);
        Due.is(text + "number words are codes as they are", Due.approve(x, 6, 90), 0);
        String empty = "18 an empty target is one: ";
        Tongueworks y = Due.bench(1, 0, 1, 0);
        y.hold(0, 0);
        y.write(0, 0, 200);
        y.mend(0, 0);
        Due.is(empty + "it is approved", y.approve(0, 0), 1);
        Due.is(empty + "others get it", y.targetLength(1), 0);
        Due.is(empty + "with the state", Due.states(y), "at");
        Due.is(empty + "it is filled from", y.fill(0, 0) + y.targetLength(0), 101);
    }

    private static void onlyTheFaults1And2() {
        String text = "18 'if it has one of the faults 1 and 2': ";
        Tongueworks x = new Tongueworks();
        x.want(1, 11);
        x.forbid(40, true);
        Due.version(x, 1, 0, 100, 200);
        Due.is(text + "4, 8, 16, 32 and 64 are none of them", Due.approve(x, 0, 40, 80, 40, 40, 40, 40, 40), 0);
        Due.is(text + "its faults", x.faults(0), 124);
        Due.is(text + "1 alone", faultsOfApproved(row(200, 100)), "1 UnsupportedOperationException");
        Due.is(text + "2 alone", faultsOfApproved(row(101, 201)), "2 UnsupportedOperationException");
        Due.is(text + "1 and 2", faultsOfApproved(row(100)), "3 UnsupportedOperationException");
        Due.is(text + "neither", faultsOfApproved(row(100, 200)), "0 0");
    }

    private static String faultsOfApproved(int[] target) {
        Tongueworks x = Due.bench(100, 200);
        Due.target(x, 0, target);
        int faults = x.faults(0);
        String answer = Scenes.answer(x, b -> b.approve(0, 0));
        Due.is("18 an entry is made only then", x.entries(), faults == 0 ? 1 : 0);
        return faults + " " + answer;
    }

    private static void apartGoes() {
        String text = "19 'this goes for all when segments are cut anew': ";
        Tongueworks x = Due.bench(1, 0, 2, 0, 300, 3, 4);
        for (int way = 0; way < 4; way++) {
            for (int i = 0; i < 3; i++) {
                Due.is(text + "not apart, " + way, x.setApart(i, true), false);
                Due.is(text + "apart, " + way, x.setApart(i, true), true);
            }
            if (way == 0) {
                Due.version(x, 1, 0, 2, 0, 300, 3, 4);
            } else if (way == 1) {
                x.cutAt(5, false);
            } else if (way == 2) {
                x.setException(60, true);
            }
        }
        Scenes.answer(x, b -> b.cutAt(6, true));
        Scenes.answer(x, b -> b.take());
        x.setException(60, true);
        x.begin();
        Due.is(text + "not by calls that throw, or begin()", x.setApart(2, false), true);
    }

    private static int faultsOf(int[] source, int... target) {
        Tongueworks x = new Tongueworks();
        x.want(1, 79);
        x.want(79, 1);
        x.forbid(2, true);
        x.forbid(78, true);
        Due.version(x, source);
        Due.target(x, 0, target);
        return x.faults(0);
    }

    private static void faultsOneByOne() {
        String numbers = "22 '4 if its number words are not those of the source, each as often': ";
        Due.is(numbers + "none", faultsOf(row(5), 5), 0);
        Due.is(numbers + "80 and 99", faultsOf(row(80, 99), 99, 80), 0);
        Due.is(numbers + "one less", faultsOf(row(80, 80), 80), 4);
        Due.is(numbers + "one more", faultsOf(row(80), 80, 80), 4);
        Due.is(numbers + "80 in place of 99", faultsOf(row(99), 80), 4);
        Due.is(numbers + "as many, others more often", faultsOf(row(80, 80, 99), 80, 99, 99), 4);
        String forbidden = "22 '8 if it has a forbidden word': ";
        Due.is(forbidden + "the first code", faultsOf(row(5), 2, 5), 8);
        Due.is(forbidden + "the last code", faultsOf(row(5), 5, 78), 8);
        Due.is(forbidden + "two", faultsOf(row(5), 2, 78), 8);
        Due.is(forbidden + "none", faultsOf(row(5), 3, 77), 0);
        Due.is(forbidden + "in the source", faultsOf(row(2, 78), 5), 0);
        String wanted = "22 '16 if a wanted word of a word of the source is missing': ";
        Due.is(wanted + "the first word", faultsOf(row(1, 5), 5), 16);
        Due.is(wanted + "the last word", faultsOf(row(5, 79), 5), 16);
        Due.is(wanted + "one of two", faultsOf(row(1, 79), 79), 16);
        Due.is(wanted + "both", faultsOf(row(1, 79), 79, 1), 0);
        Due.is(wanted + "once for two", faultsOf(row(1, 1), 79), 0);
        Due.is(wanted + "the last code of the target", faultsOf(row(1), 5, 5, 79), 0);
        Due.is("22 '16', of an empty target", faultsOfEmpty(1), 16);
        Due.is("22 '4', of an empty target", faultsOfEmpty(80), 4);
        Due.is("22 '2', of an empty target", faultsOfEmpty(200), 2);
    }

    /** An empty target is made by mending a closing of which the source has none. */
    private static int faultsOfEmpty(int source) {
        Tongueworks x = new Tongueworks();
        x.want(1, 79);
        x.forbid(2, true);
        Due.version(x, source);
        Due.target(x, 0, 209);
        Due.is("22 empty", x.mend(0, 0), 0);
        return x.faults(0);
    }

    private static void twicePlus2() {
        String text = "22 '32 if it has more codes than twice those of the source, plus 2': ";
        for (int codes : new int[] {1, 2, 10}) {
            int[] source = times(codes, 5);
            Due.is(text + codes + ", just as many", faultsOf(source, times(2 * codes + 2, 6)), 0);
            Due.is(text + codes + ", one more", faultsOf(source, times(2 * codes + 3, 6)), 32);
        }
        Due.is(text + "11, and all that a target can have", faultsOf(times(11, 5), times(24, 6)), 0);
        Due.is(text + "80", faultsOf(times(80, 5), times(24, 6)), 0);
    }

    private static void lastCodes() {
        String text = "22 '64 if the last code of one of both is an end, and that of the other one is not': ";
        Due.is(text + "both", faultsOf(row(5, 0), 6, 0), 0);
        Due.is(text + "neither", faultsOf(row(5), 6), 0);
        Due.is(text + "the source", faultsOf(row(5, 0), 6), 64);
        Due.is(text + "the target", faultsOf(row(5), 6, 0), 64);
        Due.is(text + "an end that is not the last", faultsOf(row(0, 5), 0, 6), 0);
        Due.is(text + "the last, and one that is not", faultsOf(row(5, 0), 0, 6), 64);
        Due.is(text + "an empty target, and no end", faultsOfEmpty(5), 0);
        Due.is(text + "an empty target, and an end", faultsOfEmpty(0), 64);
    }
}
