import java.util.ArrayList;
import java.util.Arrays;
import java.util.Collections;
import java.util.List;

/** What the document chooses among: all rows of pairs, and all codes that mending takes away, for small files. */
public final class ChoicesTest {
    private static final int MOST_SEGMENTS = 4;
    private static final int MOST_TAGS = 4;
    private static final int[] TAG_CODES = {100, 200, 101, 201};

    private int[] fresh;
    private int[] old;
    private List<int[]> best;

    public static void main(String[] args) {
        ChoicesTest test = new ChoicesTest();
        for (int left = 0; left <= MOST_SEGMENTS; left++) {
            for (int right = 0; right <= MOST_SEGMENTS; right++) {
                test.allFiles(left, right);
            }
        }
        for (int source = 0; source <= MOST_TAGS; source++) {
            for (int target = 1; target <= MOST_TAGS; target++) {
                allTargets(source, target);
            }
        }
        Due.close();
    }

    /** All rows of so many digits, the digits being less than the base. */
    private static List<int[]> all(int digits, int base) {
        List<int[]> rows = new ArrayList<>();
        int count = 1;
        for (int i = 0; i < digits; i++) {
            count *= base;
        }
        for (int number = 0; number < count; number++) {
            int[] row = new int[digits];
            int rest = number;
            for (int i = 0; i < digits; i++) {
                row[i] = rest % base;
                rest /= base;
            }
            rows.add(row);
        }
        return rows;
    }

    private void allFiles(int left, int right) {
        for (int[] one : all(left, 3)) {
            for (int[] other : all(right, 3)) {
                fresh = one;
                old = other;
                best = null;
                lookThrough(0, 0, new ArrayList<>());
                String who = "4 " + Arrays.toString(old) + " then " + Arrays.toString(fresh);
                Due.is(who, matched(), dueMatched());
            }
        }
    }

    /** Goes through each row of pairs in order with the same source, and keeps the best one. */
    private void lookThrough(int from, int oldFrom, List<int[]> pairs) {
        if (best == null || isBetter(pairs)) {
            best = new ArrayList<>(pairs);
        }
        for (int i = from; i < fresh.length; i++) {
            for (int j = oldFrom; j < old.length; j++) {
                if (fresh[i] == old[j]) {
                    pairs.add(new int[] {i, j});
                    lookThrough(i + 1, j + 1, pairs);
                    pairs.remove(pairs.size() - 1);
                }
            }
        }
    }

    private boolean isBetter(List<int[]> pairs) {
        if (pairs.size() != best.size()) {
            return pairs.size() > best.size();
        }
        for (int side = 0; side < 2; side++) {
            for (int i = 0; i < pairs.size(); i++) {
                if (pairs.get(i)[side] != best.get(i)[side]) {
                    return pairs.get(i)[side] < best.get(i)[side];
                }
            }
        }
        return false;
    }

    private String dueMatched() {
        StringBuilder text = new StringBuilder().append(best.size());
        for (int i = 0; i < fresh.length; i++) {
            String kept = " n none";
            for (int[] pair : best) {
                kept = pair[0] == i ? " d " + (20 + pair[1]) : kept;
            }
            text.append(kept);
        }
        return text.toString();
    }

    /** The old segments have targets of their own, so that each new one tells which it was. */
    private String matched() {
        Tongueworks x = Due.bench(codes(old));
        for (int i = 0; i < old.length; i++) {
            Due.target(x, i, 20 + i);
        }
        StringBuilder text = new StringBuilder().append(Due.version(x, codes(fresh)));
        for (int i = 0; i < fresh.length; i++) {
            text.append(' ').append(x.stateOf(i)).append(' ').append(Due.target(x, i));
        }
        return text.toString();
    }

    private static int[] codes(int[] segments) {
        int[] codes = new int[segments.length * 2];
        for (int i = 0; i < segments.length; i++) {
            codes[2 * i] = 1 + segments[i];
        }
        return codes;
    }

    private static void allTargets(int sourceTags, int targetTags) {
        for (int[] left : all(sourceTags, TAG_CODES.length)) {
            Tongueworks x = Due.bench(sourceOf(left));
            int calls = sourceTags + 3;
            for (int[] right : all(targetTags, TAG_CODES.length)) {
                if (calls > 400) {
                    x = Due.bench(sourceOf(left));
                    calls = sourceTags + 3;
                }
                int[] target = tagged(right);
                Due.target(x, 0, target);
                x.mend(0, 0);
                String due = mended(target, sourceOf(left));
                Due.is("16 " + Arrays.toString(left) + " " + Arrays.toString(target), Due.target(x, 0), due);
                calls += 20 + targetTags;
            }
        }
    }

    private static int[] tagged(int[] digits) {
        int[] row = new int[digits.length];
        for (int i = 0; i < row.length; i++) {
            row[i] = TAG_CODES[digits[i]];
        }
        return row;
    }

    /** A word stands ahead, as a segment has one code at least. */
    private static int[] sourceOf(int[] digits) {
        int[] row = new int[digits.length + 1];
        row[0] = 1;
        System.arraycopy(tagged(digits), 0, row, 1, digits.length);
        return row;
    }

    /** Takes the first code that must go away, and begins again from the left, until none must go. */
    private static String mended(int[] target, int[] source) {
        List<Integer> row = listOf(target);
        List<Integer> from = listOf(source);
        for (int i = 0; i < row.size(); i++) {
            if (mustGo(row, i, from)) {
                row.remove(i);
                i = -1;
            }
        }
        List<Integer> open = openOf(row, row.size());
        for (int i = open.size() - 1; i >= 0; i--) {
            row.add(open.get(i) + 100);
        }
        for (int opening = 100; opening < 110; opening++) {
            while (Collections.frequency(row, opening) < Collections.frequency(from, opening)) {
                row.add(opening);
                row.add(opening + 100);
            }
        }
        StringBuilder text = new StringBuilder();
        for (int code : row) {
            text.append(text.length() == 0 ? "" : " ").append(code);
        }
        return text.toString();
    }

    private static boolean mustGo(List<Integer> row, int index, List<Integer> source) {
        int code = row.get(index);
        int upToHere = Collections.frequency(row.subList(0, index + 1), code);
        if (upToHere > Collections.frequency(source, code)) {
            return true;
        }
        List<Integer> open = openOf(row, index);
        return code >= 200 && (open.isEmpty() || open.get(open.size() - 1) != code - 100);
    }

    /** The openings that are open ahead of the index; what stands there fits already. */
    private static List<Integer> openOf(List<Integer> row, int index) {
        List<Integer> open = new ArrayList<>();
        for (int code : row.subList(0, index)) {
            if (code >= 200) {
                open.remove(open.size() - 1);
            } else {
                open.add(code);
            }
        }
        return open;
    }

    private static List<Integer> listOf(int[] row) {
        List<Integer> list = new ArrayList<>();
        for (int code : row) {
            list.add(code);
        }
        return list;
    }
}
