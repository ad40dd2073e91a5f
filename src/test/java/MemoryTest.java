/** Promises 23 to 30: likeness, the entries of the memory, the best match, and terms. */
public final class MemoryTest {
    public static void main(String[] args) {
        likeness();
        entriesAndAges();
        fullMemory();
        values();
        valuesAtTheLimit();
        bestMatches();
        wantedWords();
        forbiddenWords();
        Due.close();
    }

    private static int likenessOf(int[] left, int... right) {
        Tongueworks x = new Tongueworks();
        x.begin();
        for (int code : left) {
            x.add(code);
        }
        x.add(300);
        for (int code : right) {
            x.add(code);
        }
        x.take();
        int answer = x.likeness(0, 1);
        Due.is("23 the other way round", x.likeness(1, 0), answer);
        Due.is("23 to itself", x.likeness(0, 0), 100);
        return answer;
    }

    private static int[] row(int... codes) {
        return codes;
    }

    private static void likeness() {
        Due.is("23 like", likenessOf(row(1, 2, 3), 1, 2, 3), 100);
        Due.is("23 in place of", likenessOf(row(1, 2, 3), 1, 9, 3), 67);
        Due.is("23 put in", likenessOf(row(1, 2, 3), 1, 2, 9, 3), 75);
        Due.is("23 taken out", likenessOf(row(1, 2, 3), 1, 3), 67);
        Due.is("23 at the start", likenessOf(row(9, 1, 2, 3), 1, 2, 3), 75);
        Due.is("23 unlike", likenessOf(row(1, 2), 3, 4), 0);
        Due.is("23 much longer", likenessOf(row(1), 2, 3, 4, 5, 6, 7), 0);
        Due.is("23 numbers", likenessOf(row(80, 1), 99, 1), 100);
        Due.is("23 a number for a word", likenessOf(row(80, 1), 79, 1), 50);
        Due.is("23 numbers that are moved", likenessOf(row(80, 1), 1, 81), 0);
        Due.is("23 a number taken out", likenessOf(row(80, 81, 1), 82, 1), 67);
        Due.is("23 tags", likenessOf(row(100, 1, 200), 101, 1, 201), 34);
        Due.is("23 cut towards 0", likenessOf(row(1, 2, 3, 4, 5, 6, 7), 1, 2, 3, 4, 5, 6, 8), 86);
        Tongueworks x = Due.bench(1, 0);
        int[] wrong = {-1, 1, Integer.MAX_VALUE, Integer.MIN_VALUE};
        for (int segment : wrong) {
            Due.fails("23 no segment " + segment, Due.PLACE, () -> x.likeness(segment, 0));
            Due.fails("23 no other segment " + segment, Due.PLACE, () -> x.likeness(0, segment));
        }
    }

    private static void entriesAndAges() {
        Tongueworks x = Due.bench(1, 0, 2, 0, 1, 0);
        Due.fails("25 no entry", Due.PLACE, () -> x.ageOf(0));
        Due.approve(x, 0, 11, 0);
        Due.is("24 one", x.entries(), 1);
        Due.is("25 the first age", x.ageOf(0), 0);
        Due.approve(x, 1, 12, 0);
        Due.is("24 two", x.entries(), 2);
        Due.approve(x, 2, 13, 0);
        Due.is("24 another source ahead is another entry", x.entries(), 3);
        Due.approve(x, 0, 14, 0);
        Due.is("24 renewed", x.entries(), 3);
        Due.is("25 a new age", x.ageOf(0), 3);
        Due.is("25 the others stay", x.ageOf(1) * 10 + x.ageOf(2), 12);
        x.approve(0, 0);
        Due.is("25 approved already", x.ageOf(0), 4);
        int[] wrong = {-1, 3, Integer.MAX_VALUE, Integer.MIN_VALUE};
        for (int entry : wrong) {
            Due.fails("25 no entry " + entry, Due.PLACE, () -> x.ageOf(entry));
        }
        x.clear(0, 0);
        x.fill(0, 0);
        Due.is("24 the new target", Due.target(x, 0), "14 0");
        Due.version(x, 5);
        Due.is("24 the memory stays", x.entries(), 3);
        x.hold(0, 0);
        Due.fails("24 nothing like it", Due.MISSING, () -> x.fill(0, 0));
    }

    /** Fills the memory with the sources of the words 1 to 30, each without a source ahead. */
    private static Tongueworks full() {
        Tongueworks x = new Tongueworks();
        for (int word = 1; word <= 30; word++) {
            Due.version(x, word);
            Due.is("24 in order", Due.approve(x, 0, word + 30), 0);
            Due.is("24 by number", x.entries(), word);
        }
        return x;
    }

    private static void fullMemory() {
        Tongueworks x = full();
        Due.version(x, 1);
        Due.approve(x, 0, 77);
        Due.is("24 renewed in a full one", x.entries(), 30);
        Due.is("25 renewed in its place", x.ageOf(0), 30);
        Due.version(x, 40);
        Due.approve(x, 0, 78);
        Due.is("24 30 at most", x.entries(), 30);
        Due.is("25 the one ahead stays", x.ageOf(0), 30);
        Due.is("25 the least age is gone", x.ageOf(1), 2);
        Due.is("25 the last but one", x.ageOf(28), 29);
        Due.is("25 the new one is the last", x.ageOf(29), 31);
        Due.is("27 the new one", x.bestFor(0), 29);
        Due.version(x, 2);
        Due.fails("27 the one that is gone", Due.MISSING, () -> x.bestFor(0));
        Due.version(x, 3);
        Due.is("27 numbers are less by 1", x.bestFor(0), 1);
        x.hold(0, 0);
        Due.is("27 the same one", x.fill(0, 0), 101);
        Due.is("27 its target", Due.target(x, 0), "33");
        Due.version(x, 41);
        Due.approve(x, 0, 79);
        Due.version(x, 3);
        Due.fails("27 gone next", Due.MISSING, () -> x.bestFor(0));
    }

    private static void values() {
        Tongueworks x = Due.bench(1, 2, 0, 1, 2, 0, 3, 0, 1, 2, 0);
        Due.fails("26 no entry", Due.PLACE, () -> x.valueFor(0, 0));
        Due.approve(x, 0, 9);
        Due.is("26 both have none ahead", x.valueFor(0, 0), 101);
        Due.is("26 one ahead now", x.valueFor(1, 0), 100);
        Due.is("26 unlike", x.valueFor(2, 0), 0);
        Due.approve(x, 3, 9);
        Due.is("26 another one ahead", x.valueFor(1, 1), 100);
        Due.is("26 the same one ahead", x.valueFor(3, 1), 101);
        Due.is("26 none ahead now", x.valueFor(0, 1), 100);
        Due.version(x, 3, 0, 300, 1, 2, 0, 300, 1, 80, 0);
        Due.is("26 ahead over a piece", x.valueFor(1, 1), 101);
        Due.is("26 none ahead of that entry", x.valueFor(1, 0), 100);
        Due.is("26 a near one", x.valueFor(2, 0), 67);
        int[] wrong = {-1, 3, Integer.MAX_VALUE, Integer.MIN_VALUE};
        for (int index : wrong) {
            Due.fails("26 no segment " + index, Due.PLACE, () -> x.valueFor(index, 0));
            Due.fails("26 no entry " + index, Due.PLACE, () -> x.valueFor(0, index));
        }
        Due.fails("26 no entry 2", Due.PLACE, () -> x.valueFor(0, 2));

        Tongueworks y = Due.bench(80, 5, 300, 1);
        Due.approve(y, 0, 80);
        Due.approve(y, 1, 9);
        Due.version(y, 81, 5, 300, 1);
        Due.is("26 like by numbers", y.valueFor(0, 0), 101);
        Due.is("26 the one ahead is like by numbers only", y.valueFor(1, 1), 100);
    }

    private static int valueOf(int[] entry, int[] target, int... segment) {
        Tongueworks x = Due.bench(entry);
        Due.approve(x, 0, target);
        Due.version(x, segment);
        return x.valueFor(0, 0);
    }

    private static void valuesAtTheLimit() {
        Due.is("26 half", valueOf(row(1, 2), row(9), 1, 3), 50);
        Due.is("26 less than half", valueOf(row(1, 2, 3), row(9), 1, 4, 5), 0);
        Due.is("26 49", valueOf(row(1, 2, 3, 4, 5, 6, 7), row(9), 1, 2, 3, 9, 9, 9, 9), 0);
        Due.is("26 half by length", valueOf(row(1), row(9), 1, 2), 50);
        Due.is("26 less than half by length", valueOf(row(1), row(9), 1, 2, 3), 0);
        Due.is("26 tags", valueOf(row(1, 2, 3, 4, 5), row(9), 1, 2, 3, 4, 100), 70);
        Due.is("26 half and tags", valueOf(row(1, 2), row(9), 1, 100), 40);
        Due.is("26 tags in another order",
                valueOf(row(100, 1, 2, 200), row(100, 200), 200, 1, 2, 100), 50);
        Due.is("26 tags as often", valueOf(row(100, 1, 200, 2), row(100, 200), 100, 3, 200, 2), 75);
        Due.is("26 closings count", valueOf(row(100, 1, 200, 2), row(100, 200), 100, 1, 201, 2), 65);
    }

    private static void bestMatches() {
        Tongueworks x = Due.bench(1, 2, 3, 4, 0, 1, 2, 3, 5, 0, 1, 2, 6, 7, 0);
        Due.fails("27 an empty memory", Due.MISSING, () -> x.bestFor(0));
        Due.fails("28 an empty memory", Due.MISSING, () -> x.bestAnew(0));
        Due.approve(x, 0, 9);
        Due.approve(x, 1, 9);
        Due.is("27 the greatest value", x.bestFor(0), 0);
        Due.is("28 the greatest value", x.bestAnew(0), 0);
        Due.is("27 the greatest age", x.bestFor(2), 1);
        Due.is("28 the greatest age", x.bestAnew(2), 1);
        x.approve(0, 0);
        Due.is("27 renewed", x.bestFor(2), 0);
        Due.is("28 renewed", x.bestAnew(2), 0);
        Due.version(x, 9, 0, 1, 2, 3, 4, 0);
        Due.fails("27 none", Due.MISSING, () -> x.bestFor(0));
        Due.fails("28 none", Due.MISSING, () -> x.bestAnew(0));
        Due.is("27 elsewhere", x.bestFor(1), 0);
        Due.approve(x, 1, 8);
        Due.is("27 a closer one", x.bestFor(1), 2);
        Due.is("28 a closer one", x.bestAnew(1), 2);
        Due.version(x, 1, 2, 3, 4, 0);
        Due.is("27 the context is worth more than the age", x.bestFor(0), 0);
        Due.is("28 the context is worth more than the age", x.bestAnew(0), 0);
        int[] wrong = {-1, 1, Integer.MAX_VALUE, Integer.MIN_VALUE};
        for (int segment : wrong) {
            Due.fails("27 no segment " + segment, Due.PLACE, () -> x.bestFor(segment));
            Due.fails("28 no segment " + segment, Due.PLACE, () -> x.bestAnew(segment));
        }
    }

    private static void wantedWords() {
        Tongueworks x = Due.bench(1, 2);
        Due.target(x, 0, 5);
        Due.is("29 none before", x.want(1, 79), 0);
        Due.is("29 missing", x.faults(0), 16);
        Due.is("29 another one", x.want(1, 5), 79);
        Due.is("29 there", x.faults(0), 0);
        Due.is("29 none", x.want(1, 0), 5);
        Due.is("29 none again", x.want(1, 0), 0);
        Due.is("29 the last word", x.want(79, 1), 0);
        Due.is("29 of itself", x.want(2, 2), 0);
        Due.is("29 of itself, missing", x.faults(0), 16);
        int[] wrong = {-1, 80, 99, 100, 300, Integer.MAX_VALUE, Integer.MIN_VALUE};
        for (int word : wrong) {
            Due.fails("29 no word " + word, Due.ARGUMENT, () -> x.want(word, 1));
            Due.fails("29 no wanted word " + word, Due.ARGUMENT, () -> x.want(3, word));
        }
        Due.fails("29 no word 0", Due.ARGUMENT, () -> x.want(0, 1));
        Due.is("29 as it was", x.want(3, 0), 0);
    }

    private static void forbiddenWords() {
        Tongueworks x = Due.bench(1, 2);
        Due.target(x, 0, 5, 79);
        Due.is("30 it was not", x.forbid(79, true), false);
        Due.is("30 forbidden", x.faults(0), 8);
        Due.is("30 it was", x.forbid(79, true), true);
        Due.is("30 it was still", x.forbid(79, false), true);
        Due.is("30 allowed", x.faults(0), 0);
        Due.is("30 it was no more", x.forbid(79, false), false);
        Due.is("30 the first word", x.forbid(1, true), false);
        Due.is("30 not in the target", x.faults(0), 0);
        int[] wrong = {0, -1, 80, 100, 300, Integer.MAX_VALUE, Integer.MIN_VALUE};
        for (int word : wrong) {
            Due.fails("30 no word " + word, Due.ARGUMENT, () -> x.forbid(word, true));
        }
    }
}
