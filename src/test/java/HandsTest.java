/** Promises 11 to 22: hands, targets, mending, filling, approving, and faults. */
public final class HandsTest {
    public static void main(String[] args) {
        holding();
        lettingGo();
        writing();
        copying();
        clearing();
        mending();
        mendingOfOddTags();
        mendingToTheLimit();
        filling();
        fillingWithNumbers();
        fillingWithTerms();
        approving();
        approvingWrongly();
        apart();
        readingTargets();
        faults();
        Due.close();
    }

    private static void holding() {
        Tongueworks x = Due.bench(1, 0, 2, 0, 3, 0);
        Due.is("11 one", x.hold(0, 0), 1);
        Due.is("11 two", x.hold(0, 2), 2);
        Due.is("11 the same again", x.hold(0, 2), 2);
        Due.is("11 another hand", x.hold(3, 1), 1);
        Due.failsAndChangesNothing(x, "11 another holds it", Due.STATE, () -> x.hold(3, 0));
        Due.is("11 still two", x.hold(0, 0), 2);
        Due.fails("11 no hand 4", Due.PLACE, () -> x.hold(4, 0));
        Due.fails("11 no hand -1", Due.PLACE, () -> x.hold(-1, 0));
        Due.fails("11 no segment 3", Due.PLACE, () -> x.hold(0, 3));
        Due.fails("11 no segment -1", Due.PLACE, () -> x.hold(0, -1));
        Due.is("11 states stay", Due.states(x), "nnn");
    }

    private static void lettingGo() {
        Tongueworks x = Due.bench(1, 0, 2, 0);
        x.hold(1, 0);
        x.hold(1, 1);
        Due.failsAndChangesNothing(x, "12 another hand", Due.STATE, () -> x.letGo(0, 0));
        Due.is("12 one is left", x.letGo(1, 0), 1);
        Due.fails("12 let go already", Due.STATE, () -> x.letGo(1, 0));
        Due.is("12 another can hold it", x.hold(2, 0), 1);
        Due.is("12 none is left", x.letGo(1, 1), 0);
        Due.fails("12 no hand -1", Due.PLACE, () -> x.letGo(-1, 0));
        Due.fails("12 no hand 4", Due.PLACE, () -> x.letGo(4, 0));
        Due.fails("12 no segment", Due.PLACE, () -> x.letGo(2, 2));
        Due.target(x, 1, 5);
        x.letGo(0, 1);
        Due.is("12 the target stays", Due.target(x, 1), "5");
        Due.is("12 the state stays", Due.states(x), "nd");
    }

    private static void writing() {
        Tongueworks x = Due.bench(1, 0, 2, 0);
        Due.fails("13 no hand, ahead of no code", Due.PLACE, () -> x.write(4, 0, 300));
        Due.fails("13 no segment, ahead of no code", Due.PLACE, () -> x.write(0, 2, 300));
        Due.fails("13 a piece, ahead of not held", Due.ARGUMENT, () -> x.write(0, 0, 300));
        Due.failsAndChangesNothing(x, "13 not held", Due.STATE, () -> x.write(0, 0, 1));
        x.hold(1, 0);
        Due.fails("13 held by another", Due.STATE, () -> x.write(0, 0, 1));
        int[] wrong = {-1, 110, 199, 210, 299, 300, 309, 310};
        for (int code : wrong) {
            Due.failsAndChangesNothing(x, "13 no code " + code, Due.ARGUMENT, () -> x.write(1, 0, code));
        }
        int[] right = {0, 1, 79, 80, 99, 100, 109, 200, 209};
        for (int i = 0; i < right.length; i++) {
            Due.is("13 code " + right[i], x.write(1, 0, right[i]), i + 1);
        }
        Due.is("13 in a row", Due.target(x, 0), "0 1 79 80 99 100 109 200 209");
        Due.is("13 draft", Due.states(x), "dn");
        for (int i = right.length; i < 24; i++) {
            Due.is("13 by number", x.write(1, 0, 5), i + 1);
        }
        Due.failsAndChangesNothing(x, "13 the 25th", Due.STATE, () -> x.write(1, 0, 5));
        Due.fails("13 the 25th, no code", Due.ARGUMENT, () -> x.write(1, 0, 310));
        Due.approve(x, 1, 7);
        x.write(0, 1, 8);
        Due.is("13 draft again", x.stateOf(1), 'd');
        Due.is("13 behind what was there", Due.target(x, 1), "7 8");
    }

    private static void copying() {
        int[] codes = new int[30];
        for (int i = 0; i < codes.length; i++) {
            codes[i] = i + 1;
        }
        Tongueworks x = Due.bench(codes);
        Due.failsAndChangesNothing(x, "14 not held", Due.STATE, () -> x.copy(0, 0));
        Due.fails("14 no hand", Due.PLACE, () -> x.copy(4, 0));
        Due.fails("14 no segment", Due.PLACE, () -> x.copy(0, 1));
        x.hold(0, 0);
        Due.is("14 up to 24", x.copy(0, 0), 24);
        Due.is("14 the first ones", x.targetAt(0, 23), 24);
        Due.is("14 draft", x.stateOf(0), 'd');
        Tongueworks y = Due.bench(1, 2, 0);
        Due.approve(y, 0, 9, 9, 9, 9);
        Due.is("14 all", y.copy(0, 0), 3);
        Due.is("14 in place of the old one", Due.target(y, 0), "1 2 0");
        Due.is("14 draft again", y.stateOf(0), 'd');
        Due.fails("14 held by another", Due.STATE, () -> y.copy(1, 0));
    }

    private static void clearing() {
        Tongueworks x = Due.bench(200, 0, 2, 0);
        Due.failsAndChangesNothing(x, "15 not held", Due.STATE, () -> x.clear(0, 0));
        Due.fails("15 no hand", Due.PLACE, () -> x.clear(-1, 0));
        Due.fails("15 no segment", Due.PLACE, () -> x.clear(0, 2));
        x.hold(0, 0);
        Due.is("15 none", x.clear(0, 0), -1);
        x.write(0, 0, 200);
        x.mend(0, 0);
        Due.is("15 an empty one", x.targetLength(0), 0);
        Due.is("15 an empty one is no code", Due.together(x), "2 0");
        Due.is("15 an empty one cleared", x.clear(0, 0), 0);
        Due.is("15 the source again", Due.together(x), "200 0 2 0");
        Due.approve(x, 1, 3, 4);
        Due.is("15 two", x.clear(0, 1), 2);
        Due.is("15 new", Due.states(x), "nn");
        Due.is("15 no target", x.targetLength(1), -1);
        Due.fails("15 held by another", Due.STATE, () -> x.clear(1, 0));
        Due.is("15 held still", x.letGo(0, 1), 1);
    }

    private static void mended(String what, int[] source, int[] target, String due) {
        Tongueworks x = Due.bench(source);
        Due.target(x, 0, target);
        int codes = due.isEmpty() ? 0 : due.split(" ").length;
        Due.is("16 " + what + ", codes", x.mend(0, 0), codes);
        Due.is("16 " + what, Due.target(x, 0), due);
        Due.is("16 " + what + ", once more", x.mend(0, 0), codes);
        Due.is("16 " + what + ", once more alike", Due.target(x, 0), due);
    }

    private static int[] row(int... codes) {
        return codes;
    }

    private static void mending() {
        Tongueworks x = Due.bench(100, 1, 200, 0);
        Due.fails("16 no hand", Due.PLACE, () -> x.mend(4, 0));
        Due.fails("16 no segment", Due.PLACE, () -> x.mend(0, 1));
        Due.fails("16 not held", Due.STATE, () -> x.mend(0, 0));
        x.hold(0, 0);
        Due.failsAndChangesNothing(x, "16 no target", Due.STATE, () -> x.mend(0, 0));
        Due.approve(x, 0, 100, 7, 200);
        Due.is("16 nothing to mend", x.mend(0, 0), 3);
        Due.is("16 approved still", x.stateOf(0), 'a');
        Due.fails("16 held by another", Due.STATE, () -> x.mend(1, 0));
        Tongueworks y = Due.bench(100, 1, 200, 0, 1, 0);
        Due.version(y, 100, 1, 200, 0, 1, 0, 1, 0);
        Due.approve(y, 1, 9);
        Due.is("16 a follower", Due.states(y), "nat");
        y.hold(0, 2);
        y.mend(0, 2);
        Due.is("16 unchanged, so its state stays", Due.states(y), "nat");

        int[] pair = row(100, 1, 200);
        mended("all missing", pair, row(5), "5 100 200");
        mended("all missing of an empty one", pair, row(200), "100 200");
        mended("not closed", pair, row(100, 5), "100 5 200");
        mended("not opened", pair, row(5, 200), "5 100 200");
        mended("other tags", pair, row(101, 5, 201), "5 100 200");
        mended("too many", pair, row(100, 5, 200, 100, 6, 200), "100 5 200 6");
        mended("well", pair, row(100, 200, 7, 0), "100 200 7 0");
        mended("a closing first", pair, row(200, 100, 5, 200, 6), "100 5 200 6");
        mended("a second closing", pair, row(100, 5, 200, 6, 200), "100 5 200 6");
    }

    private static void mendingOfOddTags() {
        int[] two = row(100, 101, 1, 201, 200);
        mended("crossed", two, row(100, 101, 5, 200, 201), "100 101 5 201 200");
        mended("the other way round", two, row(101, 100, 5, 200, 201), "101 100 5 200 201");
        mended("the latest one is closed first", two, row(101, 100, 5), "101 100 5 200 201");
        mended("rising numbers", row(103, 102, 202, 203), row(5), "5 102 202 103 203");
        mended("closed ahead of added", two, row(101, 5), "101 5 201 100 200");
        mended("two pairs", row(100, 200, 100, 200), row(5), "5 100 200 100 200");
        mended("one of two pairs", row(100, 200, 100, 200), row(100, 5, 200), "100 5 200 100 200");
        mended("the same nested", row(100, 200, 100, 200), row(100, 100, 5, 200, 200), "100 100 5 200 200");
        mended("a source that opens only", row(100, 1), row(100, 200, 5), "100 5 200");
        mended("a source that closes only", row(200, 1), row(100, 200, 5), "5");
        mended("a source that opens twice", row(100, 100, 200), row(100, 100, 5, 200, 6, 200), "100 100 5 200 6 200");
        mended("the highest tags", row(109, 209, 108, 208), row(209, 108), "108 208 109 209");
    }

    private static void mendingToTheLimit() {
        Tongueworks x = Due.bench(100, 1, 200);
        x.hold(0, 0);
        for (int i = 0; i < 23; i++) {
            x.write(0, 0, 5);
        }
        Due.is("16 the 25th is left out", x.mend(0, 0), 24);
        Due.is("16 the opening stays", x.targetAt(0, 23), 100);
        Due.is("16 a change", x.stateOf(0), 'd');
        Due.is("16 not well tagged", x.faults(0) & 3, 3);
        Tongueworks y = Due.bench(100, 1, 200);
        y.hold(0, 0);
        y.write(0, 0, 100);
        for (int i = 0; i < 23; i++) {
            y.write(0, 0, 5);
        }
        Due.is("16 no room to close", y.mend(0, 0), 24);
        Due.is("16 as it was", y.targetAt(0, 23), 5);
    }

    private static void filling() {
        Tongueworks x = Due.bench(1, 2, 3, 4, 0, 1, 2, 3, 5, 0, 1, 2, 3, 4, 0, 9);
        Due.fails("17 no hand", Due.PLACE, () -> x.fill(4, 0));
        Due.fails("17 no segment", Due.PLACE, () -> x.fill(0, 4));
        Due.fails("17 not held, ahead of no match", Due.STATE, () -> x.fill(0, 0));
        x.hold(0, 0);
        Due.failsAndChangesNothing(x, "17 an empty memory", Due.MISSING, () -> x.fill(0, 0));
        x.hold(1, 1);
        x.hold(1, 2);
        x.hold(1, 3);
        Due.approve(x, 0, 11, 12);
        Due.fails("17 held by another", Due.STATE, () -> x.fill(0, 1));
        Due.is("17 a near one", x.fill(1, 1), 80);
        Due.is("17 a near one is a draft", x.stateOf(1), 'd');
        Due.is("17 its target", Due.target(x, 1), "11 12");
        Due.is("17 a like one elsewhere", x.fill(1, 2), 100);
        Due.is("17 a like one is translated", x.stateOf(2), 't');
        Due.failsAndChangesNothing(x, "17 none", Due.MISSING, () -> x.fill(1, 3));
        x.clear(0, 0);
        Due.is("17 the same place", x.fill(0, 0), 101);
        Due.is("17 the same place is translated", x.stateOf(0), 't');
        x.write(0, 0, 13);
        Due.is("17 in place of the old target", x.fill(0, 0), 101);
        Due.is("17 the old one is gone", Due.target(x, 0), "11 12");

        Tongueworks y = Due.bench(1, 2, 3, 4, 5, 0, 100, 1, 2, 3, 4, 5, 200, 0);
        Due.approve(y, 0, 7);
        y.hold(0, 1);
        Due.is("17 less for tags", y.fill(0, 1), 65);
        Due.is("17 mended", Due.target(y, 1), "7 100 200");
    }

    private static String filled(String what, int[] source, int[] target, int[] other) {
        Tongueworks x = new Tongueworks();
        x.want(1, 11);
        x.want(2, 12);
        x.want(3, 13);
        Due.version(x, source);
        Due.approve(x, 0, target);
        Due.version(x, other);
        x.hold(0, 0);
        x.fill(0, 0);
        Due.is("17 " + what + " is sound", x.isSound(), true);
        return Due.target(x, 0);
    }

    private static void fillingWithNumbers() {
        Due.is("17 numbers by their place",
                filled("numbers", row(80, 1, 81), row(81, 5, 80), row(90, 1, 91)), "91 5 90");
        Due.is("17 the first of several",
                filled("several", row(80, 80, 81), row(80, 81, 80), row(90, 91, 92)), "90 92 90");
        Due.is("17 a number that is not in the source",
                filled("strange", row(80, 1), row(85, 80), row(90, 1)), "85 90");
        Due.is("17 not as many",
                filled("fewer", row(80, 1, 2, 80), row(80, 5), row(90, 1, 2, 4)), "80 5");
        Due.is("17 each changes once",
                filled("once", row(80, 81, 1), row(80, 81), row(81, 80, 1)), "81 80");
        Due.is("17 as many, of other length",
                filled("longer", row(80, 1, 2), row(80, 5), row(99, 1, 2, 3)), "99 5");
    }

    private static void fillingWithTerms() {
        Due.is("17 the wanted word",
                filled("a term", row(1, 5, 0), row(11, 6, 11, 0), row(2, 5, 0)), "12 6 12 0");
        Due.is("17 no wanted word for the segment's",
                filled("no term", row(1, 5, 0), row(11, 6, 0), row(9, 5, 0)), "11 6 0");
        Due.is("17 no wanted word for the entry's",
                filled("no term", row(9, 5, 0), row(11, 6, 0), row(1, 5, 0)), "11 6 0");
        Due.is("17 two places",
                filled("two", row(1, 1, 5, 6), row(11, 6), row(2, 2, 5, 6)), "11 6");
        Due.is("17 another number counts",
                filled("a number", row(1, 80, 5, 6), row(11, 80), row(2, 81, 5, 6)), "11 81");
        Due.is("17 the same numbers do not count",
                filled("like", row(1, 80, 5, 6), row(11, 80), row(2, 80, 5, 6)), "12 80");
        Due.is("17 other length",
                filled("longer", row(1, 5, 6), row(11, 7), row(2, 5, 6, 6)), "11 7");
        Due.is("17 other tags are mended",
                filled("tags", row(100, 1, 5, 6, 200), row(100, 11, 200), row(100, 2, 5, 6, 200)), "100 12 200");
        Due.is("17 like sources",
                filled("same", row(1, 2, 0), row(11, 12), row(1, 2, 0)), "11 12");
    }

    private static void approving() {
        Tongueworks x = Due.bench(1, 0, 1, 0, 1, 0, 1, 0, 1, 0, 2, 0);
        Due.approve(x, 1, 9);
        Due.is("18 all free ones follow", Due.states(x), "tatttn");
        Due.is("18 with the target", Due.target(x, 4), "9");
        Due.is("18 others do not", Due.target(x, 5), "none");
        Due.is("18 one entry", x.entries(), 1);
        x.hold(1, 0);
        x.setApart(2, true);
        x.hold(2, 3);
        x.write(2, 3, 8);
        x.clear(0, 1);
        Due.is("18 but held ones, and ones apart", Due.approve(x, 1, 7), 1);
        Due.is("18 held", Due.target(x, 0), "9");
        Due.is("18 apart", Due.target(x, 2), "9");
        Due.is("18 held, too", Due.target(x, 3), "9 8");
        Due.is("18 free", Due.target(x, 4), "7");
        Due.is("18 states", Due.states(x), "tatdtn");
        x.letGo(2, 3);
        Due.is("18 once more: free ones that have it count, too", x.approve(0, 1), 2);
        Due.is("18 also by their own hand", Due.target(x, 3), "7");
        Due.is("18 renewed", x.entries(), 1);
        Due.is("18 its age", x.ageOf(0), 2);
        x.letGo(0, 1);
        Due.is("18 approved ones stay", Due.approve(x, 4, 6), 1);
        Due.is("18 the approved one", Due.target(x, 1), "7");
        Due.is("18 the other one", Due.target(x, 3), "6");
        Due.is("18 the same source ahead, so the same entry", x.entries(), 1);
        x.setApart(4, true);
        Due.is("18 of one that is apart", x.approve(0, 4), 1);
    }

    private static void approvingWrongly() {
        Tongueworks x = Due.bench(100, 1, 200, 0);
        Due.fails("18 no hand", Due.PLACE, () -> x.approve(4, 0));
        Due.fails("18 no segment", Due.PLACE, () -> x.approve(0, 1));
        Due.fails("18 not held", Due.STATE, () -> x.approve(0, 0));
        x.hold(0, 0);
        Due.fails("18 no target", Due.STATE, () -> x.approve(0, 0));
        x.write(0, 0, 5);
        Due.fails("18 held by another", Due.STATE, () -> x.approve(1, 0));
        Due.failsAndChangesNothing(x, "18 tags are missing", Due.UNSUPPORTED, () -> x.approve(0, 0));
        x.write(0, 0, 200);
        x.write(0, 0, 100);
        Due.failsAndChangesNothing(x, "18 not well tagged", Due.UNSUPPORTED, () -> x.approve(0, 0));
        Due.is("18 no entry", x.entries(), 0);
        x.mend(0, 0);
        x.write(0, 0, 80);
        Due.is("18 with other faults", x.approve(0, 0), 0);
        Due.is("18 approved", x.stateOf(0), 'a');
        Tongueworks y = Due.bench(100, 1);
        y.hold(0, 0);
        y.copy(0, 0);
        Due.fails("18 the tags of the source, but not well", Due.UNSUPPORTED, () -> y.approve(0, 0));
        y.mend(0, 0);
        Due.fails("18 well, but not the tags of the source", Due.UNSUPPORTED, () -> y.approve(0, 0));
    }

    private static void apart() {
        Tongueworks x = Due.bench(1, 0, 1, 0);
        Due.is("19 it was not", x.setApart(0, true), false);
        Due.is("19 it was", x.setApart(0, true), true);
        Due.is("19 only this", x.setApart(1, false), false);
        Due.is("19 it was still", x.setApart(0, false), true);
        Due.is("19 no more", x.setApart(0, false), false);
        Due.fails("19 no segment 2", Due.PLACE, () -> x.setApart(2, true));
        Due.fails("19 no segment -1", Due.PLACE, () -> x.setApart(-1, true));
        x.setApart(1, true);
        Due.is("19 apart", Due.approve(x, 0, 9), 0);
        x.setApart(1, false);
        Due.is("19 not apart", x.approve(0, 0), 1);
        x.setApart(0, true);
        x.cutAt(0, false);
        Due.is("19 goes by a cut", x.setApart(0, true), false);
        x.setException(50, true);
        Due.is("19 goes by an exception", x.setApart(0, true), false);
        x.setException(50, true);
        Due.is("19 stays if nothing changes", x.setApart(0, true), true);
        x.begin();
        Due.is("19 stays by a version that is begun", x.setApart(0, true), true);
        x.take();
        Due.is("19 no segment is left", x.segments(), 0);
    }

    private static void readingTargets() {
        Tongueworks x = Due.bench(1, 0, 2, 0);
        Due.is("20 none", x.targetLength(0), -1);
        Due.fails("21 none", Due.PLACE, () -> x.targetAt(0, 0));
        Due.target(x, 0, 5, 6);
        Due.is("20 two", x.targetLength(0), 2);
        Due.is("21 the first", x.targetAt(0, 0), 5);
        Due.is("21 the last", x.targetAt(0, 1), 6);
        int[] wrong = {-1, 2, Integer.MAX_VALUE, Integer.MIN_VALUE};
        for (int index : wrong) {
            Due.fails("21 no code " + index, Due.PLACE, () -> x.targetAt(0, index));
            Due.fails("21 no segment " + index, Due.PLACE, () -> x.targetAt(index, 0));
            Due.fails("20 no segment " + index, Due.PLACE, () -> x.targetLength(index));
        }
        x.clear(0, 0);
        Due.fails("21 cleared", Due.PLACE, () -> x.targetAt(0, 0));
    }

    private static int faultsOf(int[] source, int... target) {
        Tongueworks x = new Tongueworks();
        x.want(1, 11);
        x.want(2, 12);
        x.forbid(40, true);
        Due.version(x, source);
        Due.target(x, 0, target);
        return x.faults(0);
    }

    private static void faults() {
        Tongueworks x = Due.bench(1, 0);
        Due.fails("22 no segment 1", Due.PLACE, () -> x.faults(1));
        Due.fails("22 no segment -1", Due.PLACE, () -> x.faults(-1));
        Due.fails("22 no target", Due.MISSING, () -> x.faults(0));
        Due.is("22 none", faultsOf(row(5, 0), 6, 0), 0);
        Due.is("22 not well tagged", faultsOf(row(100, 200, 5), 200, 100), 1);
        Due.is("22 crossed", faultsOf(row(100, 101, 201, 200), 100, 101, 200, 201), 1);
        Due.is("22 not its tags", faultsOf(row(100, 200, 5), 101, 201), 2);
        Due.is("22 not as often", faultsOf(row(100, 200, 5), 100, 200, 100, 200), 2);
        Due.is("22 not closed", faultsOf(row(100, 200, 5), 100), 3);
        Due.is("22 as in the source, that is not well tagged", faultsOf(row(200, 100, 5), 200, 100), 1);
        Due.is("22 a number too many", faultsOf(row(80, 5), 80, 80), 4);
        Due.is("22 another number", faultsOf(row(80, 5), 81), 4);
        Due.is("22 numbers in another order", faultsOf(row(80, 81), 81, 80), 0);
        Due.is("22 forbidden", faultsOf(row(5), 40), 8);
        Due.is("22 forbidden in the source", faultsOf(row(40), 5), 0);
        Due.is("22 a wanted word is missing", faultsOf(row(1, 2), 11), 16);
        Due.is("22 both are there", faultsOf(row(1, 2), 12, 11), 0);
        Due.is("22 twice, plus 2", faultsOf(row(5), 5, 5, 5, 5), 0);
        Due.is("22 more than twice, plus 2", faultsOf(row(5), 5, 5, 5, 5, 5), 32);
        Due.is("22 the last code of the source", faultsOf(row(5, 0), 5), 64);
        Due.is("22 the last code of the target", faultsOf(row(5), 5, 0), 64);
        Due.is("22 all", faultsOf(row(1, 0), 100, 80, 40, 40, 40, 40, 40), 127);
        Tongueworks y = Due.bench(200, 0);
        y.hold(0, 0);
        y.write(0, 0, 201);
        y.mend(0, 0);
        Due.is("22 of an empty target", y.faults(0), 66);
        y.want(5, 6);
        y.forbid(6, true);
        Due.is("22 terms of other words", y.faults(0), 66);
    }
}
