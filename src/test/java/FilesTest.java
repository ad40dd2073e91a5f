/** Promises 1 to 10: a new object, versions, cutting, and what segments tell. */
public final class FilesTest {
    public static void main(String[] args) {
        newObject();
        beginning();
        adding();
        taking();
        keepingOfSeveral();
        cuttingByRule();
        exceptions();
        cuttingByHand();
        cuttingWrongly();
        reading();
        Due.close();
    }

    private static void newObject() {
        Tongueworks x = new Tongueworks();
        Due.is("1 segments", x.segments(), 0);
        Due.is("1 entries", x.entries(), 0);
        Due.is("1 together", x.together(), 0);
        Due.is("1 sum", x.sum(), 7L);
        Due.is("1 isSound", x.isSound(), true);
        Due.is("1 no exception", x.setException(1, false), false);
        Due.is("1 no wanted word", x.want(79, 0), 0);
        Due.is("1 no forbidden word", x.forbid(79, false), false);
        Due.fails("1 no place to cut", Due.PLACE, () -> x.cutAt(0, true));
        Due.fails("1 no segment", Due.PLACE, () -> x.length(0));
        Tongueworks other = Due.bench(1);
        Due.is("1 objects are apart", x.segments(), 0);
        Due.is("1 the other one", other.segments(), 1);
    }

    private static void beginning() {
        Tongueworks x = new Tongueworks();
        Due.is("2 the first", x.begin(), 0);
        x.add(1);
        Due.failsAndChangesNothing(x, "2 begun already", Due.STATE, () -> x.begin());
        Due.is("2 still begun", x.add(2), 2);
        x.take();
        Due.is("2 one taken", x.begin(), 1);
        Due.is("2 the old one stays", Due.sources(x), "1 2");
        Due.is("2 it stays put together", Due.together(x), "1 2");
        Due.is("2 the new one is empty", x.add(9), 1);
        Due.is("2 the old one can be cut", x.cutAt(0, true), 2);
        Due.is("2 also by adding", x.together(), 2);
        x.take();
        Due.is("2 two taken", x.begin(), 2);
        x.take();
        Due.is("2 an empty one", x.segments(), 0);
        Due.is("2 three taken", x.begin(), 3);
    }

    private static void adding() {
        Tongueworks x = new Tongueworks();
        Due.fails("3 no code comes first", Due.ARGUMENT, () -> x.add(310));
        Due.fails("3 none begun", Due.STATE, () -> x.add(1));
        x.begin();
        int[] wrong = {-1, 110, 199, 210, 299, 310, Integer.MAX_VALUE, Integer.MIN_VALUE};
        for (int code : wrong) {
            Due.fails("3 no code " + code, Due.ARGUMENT, () -> x.add(code));
        }
        int[] right = {0, 1, 79, 80, 99, 100, 109, 200, 209, 300, 309};
        for (int i = 0; i < right.length; i++) {
            Due.is("3 code " + right[i], x.add(right[i]), i + 1);
        }
        for (int i = right.length; i < 80; i++) {
            Due.is("3 code by number", x.add(1), i + 1);
        }
        Due.failsAndChangesNothing(x, "3 the 81st", Due.STATE, () -> x.add(1));
        Due.fails("3 the 81st, no code", Due.ARGUMENT, () -> x.add(-1));
        x.take();
        Due.is("3 all are there", x.together(), 80);
        Due.fails("3 taken", Due.STATE, () -> x.add(1));
    }

    private static void taking() {
        Tongueworks x = new Tongueworks();
        Due.fails("4 none begun", Due.STATE, () -> x.take());
        Due.is("4 the first", Due.version(x, 1, 0, 2, 0), 0);
        Due.failsAndChangesNothing(x, "4 taken already", Due.STATE, () -> x.take());
        Due.approve(x, 1, 5, 0);
        x.setApart(1, true);
        Due.is("4 the same once more", Due.version(x, 1, 0, 2, 0), 2);
        Due.is("4 states stay", Due.states(x), "na");
        Due.is("4 targets stay", Due.target(x, 1), "5 0");
        Due.fails("4 hands stay", Due.STATE, () -> x.hold(1, 1));
        Due.is("4 apart goes", x.setApart(1, false), false);
        x.cutAt(0, true);
        Due.is("4 cut by hand", Due.sources(x), "1|0|2 0");
        Due.is("4 cuts by hand go", Due.version(x, 1, 0, 2, 0), 1);
        Due.is("4 cut by rule alone", Due.sources(x), "1 0|2 0");
        Due.is("4 the one that stays", Due.states(x), "na");
        Due.is("4 another file", Due.version(x, 300, 2, 0, 3), 1);
        Due.is("4 the one that moved", Due.target(x, 0), "5 0");
        Due.is("4 the one that is new", Due.states(x), "an");
        Due.is("4 an empty file", Due.version(x), 0);
        Due.is("4 no segments", x.segments(), 0);
        Due.is("4 what went is gone", Due.version(x, 2, 0), 0);
        Due.is("4 without target", Due.target(x, 0), "none");
        Due.is("4 and without hand", x.hold(3, 0), 1);
    }

    private static void keepingOfSeveral() {
        Tongueworks x = Due.bench(1, 0, 2, 0, 1, 0);
        Due.target(x, 0, 11);
        Due.target(x, 1, 12);
        Due.target(x, 2, 13);
        Due.is("4 the earliest old one", Due.version(x, 1, 0), 1);
        Due.is("4 its target", Due.target(x, 0), "11");

        Tongueworks y = Due.bench(1, 0);
        Due.target(y, 0, 11);
        Due.is("4 the earliest new one", Due.version(y, 3, 0, 1, 0, 1, 0), 1);
        Due.is("4 its states", Due.states(y), "ndn");

        Tongueworks z = Due.bench(1, 0, 2, 0);
        Due.target(z, 0, 11);
        Due.target(z, 1, 12);
        Due.is("4 crossed", Due.version(z, 2, 0, 1, 0), 1);
        Due.is("4 the earlier new one of crossed", Due.states(z), "dn");
        Due.is("4 its target of crossed", Due.target(z, 0), "12");

        Tongueworks w = Due.bench(1, 0, 2, 0, 3, 0);
        Due.target(w, 0, 11);
        Due.target(w, 1, 12);
        Due.target(w, 2, 13);
        Due.is("4 the longest row", Due.version(w, 3, 0, 1, 0, 2, 0), 2);
        Due.is("4 more is better than earlier", Due.states(w), "ndd");
    }

    private static void cuttingByRule() {
        Due.is("4 behind each end", Due.sources(Due.bench(1, 0, 2, 3, 0, 4)), "1 0|2 3 0|4");
        Due.is("4 no code ahead", Due.sources(Due.bench(0, 1, 0, 2)), "0 1 0|2");
        Due.is("4 an end ahead", Due.sources(Due.bench(0, 0, 1)), "0 0|1");
        Due.is("4 ends in a row", Due.sources(Due.bench(1, 0, 0, 0)), "1 0|0|0");
        Due.is("4 only an end", Due.sources(Due.bench(0)), "0");
        Due.is("4 a piece cuts", Due.sources(Due.bench(1, 300, 2, 301, 309, 3)), "1|2|3");
        Due.is("4 no code ahead behind a piece", Due.sources(Due.bench(1, 300, 0, 2)), "1|0 2");
        Due.is("4 only pieces", Due.bench(300, 309).segments(), 0);
        Due.is("4 tags do not cut", Due.sources(Due.bench(100, 80, 200, 0, 1)), "100 80 200 0|1");
    }

    private static void exceptions() {
        Tongueworks x = Due.bench(1, 0, 2, 0, 1, 0);
        int[] wrong = {0, 80, -1, 100, 300, Integer.MIN_VALUE};
        for (int word : wrong) {
            Due.failsAndChangesNothing(x, "5 no word " + word, Due.ARGUMENT, () -> x.setException(word, true));
        }
        Due.approve(x, 1, 5, 0);
        x.setApart(1, true);
        Due.is("5 nothing changes", x.setException(1, false), false);
        Due.is("5 so it stays apart", x.setApart(1, true), true);
        Due.is("5 it was none", x.setException(1, true), false);
        Due.is("5 cut anew", Due.sources(x), "1 0 2 0|1 0");
        Due.is("5 states", Due.states(x), "nn");
        Due.is("5 it was one", x.setException(1, true), true);
        Due.is("5 it was one still", x.setException(1, false), true);
        Due.is("5 cut again", Due.sources(x), "1 0|2 0|1 0");
        Due.is("5 gone is gone", Due.states(x), "nnn");
        x.setApart(0, true);
        Due.is("5 a word that is not there", x.setException(79, true), false);
        Due.is("5 apart goes also then", x.setApart(0, false), false);
        Due.is("5 it goes for later files", x.setException(1, true), false);
        Due.version(x, 1, 0, 300, 1, 300, 0, 2, 79, 0, 3);
        Due.is("5 later files", Due.sources(x), "1 0|1|0 2 79 0 3");
    }

    private static void cuttingByHand() {
        Tongueworks x = Due.bench(1, 2, 0, 3, 0, 300, 4, 5);
        Due.is("6 split", x.cutAt(0, true), 4);
        Due.is("6 split, sources", Due.sources(x), "1|2 0|3 0|4 5");
        Due.is("6 joined", x.cutAt(2, false), 3);
        Due.is("6 joined, sources", Due.sources(x), "1|2 0 3 0|4 5");
        Due.is("6 split where it was joined", x.cutAt(2, true), 4);
        Due.is("6 joined where it was split", x.cutAt(0, false), 3);
        Due.is("6 again, sources", Due.sources(x), "1 2 0|3 0|4 5");
        Due.approve(x, 2, 7, 8);
        x.setApart(0, true);
        Due.is("6 joined where it is joined", x.cutAt(0, false), 3);
        Due.is("6 apart goes all the same", x.setApart(0, false), false);
        Due.is("6 the matched ones stay", Due.states(x), "nna");
        Due.is("6 with target", Due.target(x, 2), "7 8");
        Due.is("6 the last place", x.cutAt(6, true), 4);
        Due.is("6 unmatched ones go", Due.states(x), "nnnn");

        Tongueworks y = Due.bench(1, 0, 2);
        Due.is("6 a split counts against an exception", y.cutAt(1, true), 2);
        y.setException(1, true);
        Due.is("6 split still", Due.sources(y), "1 0|2");
        Due.is("6 a join counts against the rule", y.cutAt(1, false), 1);
        y.setException(1, false);
        Due.is("6 joined still", Due.sources(y), "1 0 2");
        Due.is("6 the code ahead is that of the whole row", Due.bench(1, 0, 2).cutAt(0, true), 3);

        Tongueworks z = Due.bench(0, 1);
        Due.is("6 split behind the first end", z.cutAt(0, true), 2);
    }

    private static void cuttingWrongly() {
        Tongueworks x = Due.bench(1, 2, 300, 3);
        int[] places = {-1, 3, 4, Integer.MAX_VALUE, Integer.MIN_VALUE};
        for (int place : places) {
            Due.failsAndChangesNothing(x, "6 no place " + place, Due.PLACE, () -> x.cutAt(place, true));
        }
        Due.failsAndChangesNothing(x, "6 a piece behind", Due.ARGUMENT, () -> x.cutAt(1, true));
        Due.failsAndChangesNothing(x, "6 a piece", Due.ARGUMENT, () -> x.cutAt(2, false));
        Tongueworks y = Due.bench(1, 300);
        Due.fails("6 a piece at the end", Due.PLACE, () -> y.cutAt(1, true));
        y.begin();
        y.add(1);
        y.add(2);
        y.add(3);
        Due.fails("6 the version that was taken counts", Due.PLACE, () -> y.cutAt(1, true));
    }

    private static void reading() {
        Tongueworks x = Due.bench(300, 1, 80, 0, 100, 200);
        Due.is("7 segments", x.segments(), 2);
        Due.is("8 length of 0", x.length(0), 3);
        Due.is("8 length of 1", x.length(1), 2);
        Due.is("9 a code", x.sourceAt(0, 1), 80);
        Due.is("9 the last code", x.sourceAt(1, 1), 200);
        Due.is("10 new", x.stateOf(0), 'n');
        int[] wrong = {-1, 2, Integer.MAX_VALUE, Integer.MIN_VALUE};
        for (int segment : wrong) {
            Due.fails("8 no segment " + segment, Due.PLACE, () -> x.length(segment));
            Due.fails("9 no segment " + segment, Due.PLACE, () -> x.sourceAt(segment, 0));
            Due.fails("10 no segment " + segment, Due.PLACE, () -> x.stateOf(segment));
        }
        int[] places = {-1, 2, 3, Integer.MAX_VALUE, Integer.MIN_VALUE};
        for (int place : places) {
            Due.fails("9 no code " + place, Due.PLACE, () -> x.sourceAt(1, place));
        }
        x.hold(0, 0);
        x.write(0, 0, 1);
        Due.is("10 draft", x.stateOf(0), 'd');
        x.copy(0, 0);
        x.approve(0, 0);
        Due.is("10 approved", x.stateOf(0), 'a');
        x.begin();
        x.add(1);
        Due.is("7 of the version that was taken", x.segments(), 2);
    }
}
