import java.util.ArrayList;
import java.util.Collections;
import java.util.HashMap;
import java.util.HashSet;
import java.util.List;
import java.util.Map;
import java.util.NoSuchElementException;
import java.util.Set;

/** The document once more, written with the library's lists and maps, for runs that are compared. */
final class Plain {
    static final class Seg {
        List<Integer> source = new ArrayList<>();
        List<Integer> target = null;
        char state = 'n';
        int hand = -1;
        boolean apart = false;
    }

    static final class Ent {
        List<Integer> source;
        List<Integer> target;
        List<Integer> ahead;
        int age;
    }

    List<Integer> file = new ArrayList<>();
    List<Integer> draft = null;
    int taken = 0;
    Set<Integer> exceptions = new HashSet<>();
    Map<Integer, Boolean> cuts = new HashMap<>();
    List<Seg> segs = new ArrayList<>();
    List<Ent> ents = new ArrayList<>();
    int made = 0;
    Map<Integer, Integer> wanted = new HashMap<>();
    Set<Integer> forbidden = new HashSet<>();

    static boolean word(int c) {
        return 1 <= c && c <= 79;
    }

    static boolean number(int c) {
        return 80 <= c && c <= 99;
    }

    static boolean opening(int c) {
        return 100 <= c && c <= 109;
    }

    static boolean closing(int c) {
        return 200 <= c && c <= 209;
    }

    static boolean piece(int c) {
        return 300 <= c && c <= 309;
    }

    static boolean code(int c) {
        return c == 0 || word(c) || number(c) || opening(c) || closing(c) || piece(c);
    }

    int begin() {
        if (draft != null) {
            throw new IllegalStateException();
        }
        draft = new ArrayList<>();
        return taken;
    }

    int add(int c) {
        if (!code(c)) {
            throw new IllegalArgumentException();
        }
        if (draft == null || draft.size() == 80) {
            throw new IllegalStateException();
        }
        draft.add(c);
        return draft.size();
    }

    int take() {
        if (draft == null) {
            throw new IllegalStateException();
        }
        file = draft;
        draft = null;
        taken++;
        cuts.clear();
        return recut();
    }

    boolean setException(int w, boolean is) {
        if (!word(w)) {
            throw new IllegalArgumentException();
        }
        boolean was = exceptions.contains(w);
        if (was != is) {
            if (is) {
                exceptions.add(w);
            } else {
                exceptions.remove(w);
            }
            recut();
        }
        return was;
    }

    int cutAt(int i, boolean split) {
        if (i < 0 || i > file.size() - 2) {
            throw new IndexOutOfBoundsException();
        }
        if (piece(file.get(i)) || piece(file.get(i + 1))) {
            throw new IllegalArgumentException();
        }
        cuts.put(i, split);
        recut();
        return segs.size();
    }

    int recut() {
        List<Seg> fresh = new ArrayList<>();
        int i = 0;
        while (i < file.size()) {
            if (piece(file.get(i))) {
                i++;
                continue;
            }
            int rowStart = i;
            int rowEnd = i;
            while (rowEnd < file.size() && !piece(file.get(rowEnd))) {
                rowEnd++;
            }
            Seg seg = new Seg();
            for (int k = rowStart; k < rowEnd; k++) {
                seg.source.add(file.get(k));
                boolean cut = false;
                if (file.get(k) == 0 && k > rowStart) {
                    cut = !exceptions.contains(file.get(k - 1));
                }
                if (cuts.containsKey(k)) {
                    cut = cuts.get(k);
                }
                if (cut || k == rowEnd - 1) {
                    fresh.add(seg);
                    seg = new Seg();
                }
            }
            i = rowEnd;
        }
        List<int[]> pairs = bestPairs(fresh, segs, 0, 0, new HashMap<>());
        for (int[] pair : pairs) {
            Seg to = fresh.get(pair[0]);
            Seg from = segs.get(pair[1]);
            to.target = from.target == null ? null : new ArrayList<>(from.target);
            to.state = from.state;
            to.hand = from.hand;
        }
        segs = fresh;
        return pairs.size();
    }

    /** All choices of pairs are compared as the document says: by number, then new ones, then old ones. */
    static List<int[]> bestPairs(List<Seg> fresh, List<Seg> old, int i, int j, Map<Integer, List<int[]>> known) {
        if (i == fresh.size() || j == old.size()) {
            return new ArrayList<>();
        }
        int key = i * 100 + j;
        if (known.containsKey(key)) {
            return known.get(key);
        }
        List<int[]> best = bestPairs(fresh, old, i + 1, j, known);
        List<int[]> other = bestPairs(fresh, old, i, j + 1, known);
        if (before(other, best)) {
            best = other;
        }
        if (fresh.get(i).source.equals(old.get(j).source)) {
            List<int[]> with = new ArrayList<>();
            with.add(new int[] {i, j});
            with.addAll(bestPairs(fresh, old, i + 1, j + 1, known));
            if (before(with, best)) {
                best = with;
            }
        }
        known.put(key, best);
        return best;
    }

    static boolean before(List<int[]> a, List<int[]> b) {
        if (a.size() != b.size()) {
            return a.size() > b.size();
        }
        for (int side = 0; side < 2; side++) {
            for (int k = 0; k < a.size(); k++) {
                if (a.get(k)[side] != b.get(k)[side]) {
                    return a.get(k)[side] < b.get(k)[side];
                }
            }
        }
        return false;
    }

    Seg seg(int s) {
        if (s < 0 || s >= segs.size()) {
            throw new IndexOutOfBoundsException();
        }
        return segs.get(s);
    }

    Seg seg(int hand, int s) {
        if (hand < 0 || hand > 3) {
            throw new IndexOutOfBoundsException();
        }
        return seg(s);
    }

    Seg mine(int hand, int s) {
        Seg seg = seg(hand, s);
        if (seg.hand != hand) {
            throw new IllegalStateException();
        }
        return seg;
    }

    int length(int s) {
        return seg(s).source.size();
    }

    int sourceAt(int s, int i) {
        return seg(s).source.get(i);
    }

    char stateOf(int s) {
        return seg(s).state;
    }

    int heldBy(int hand) {
        return (int) segs.stream().filter(s -> s.hand == hand).count();
    }

    int hold(int hand, int s) {
        Seg seg = seg(hand, s);
        if (seg.hand >= 0 && seg.hand != hand) {
            throw new IllegalStateException();
        }
        seg.hand = hand;
        return heldBy(hand);
    }

    int letGo(int hand, int s) {
        mine(hand, s).hand = -1;
        return heldBy(hand);
    }

    int write(int hand, int s, int c) {
        Seg seg = seg(hand, s);
        if (!code(c) || piece(c)) {
            throw new IllegalArgumentException();
        }
        if (seg.hand != hand || seg.target != null && seg.target.size() == 24) {
            throw new IllegalStateException();
        }
        if (seg.target == null) {
            seg.target = new ArrayList<>();
        }
        seg.target.add(c);
        seg.state = 'd';
        return seg.target.size();
    }

    int copy(int hand, int s) {
        Seg seg = mine(hand, s);
        seg.target = new ArrayList<>(seg.source.subList(0, Math.min(24, seg.source.size())));
        seg.state = 'd';
        return seg.target.size();
    }

    int clear(int hand, int s) {
        Seg seg = mine(hand, s);
        int had = seg.target == null ? -1 : seg.target.size();
        seg.target = null;
        seg.state = 'n';
        return had;
    }

    int mend(int hand, int s) {
        Seg seg = mine(hand, s);
        if (seg.target == null) {
            throw new IllegalStateException();
        }
        List<Integer> mended = mended(seg.target, seg.source);
        if (!mended.equals(seg.target)) {
            seg.state = 'd';
        }
        seg.target = mended;
        return mended.size();
    }

    static List<Integer> mended(List<Integer> target, List<Integer> source) {
        List<Integer> out = new ArrayList<>();
        List<Integer> open = new ArrayList<>();
        for (int c : target) {
            if (opening(c) || closing(c)) {
                if (Collections.frequency(out, c) >= Collections.frequency(source, c)) {
                    continue;
                }
                if (opening(c)) {
                    open.add(c);
                } else {
                    if (open.isEmpty() || open.get(open.size() - 1) != c - 100) {
                        continue;
                    }
                    open.remove(open.size() - 1);
                }
            }
            out.add(c);
        }
        Collections.reverse(open);
        for (int c : open) {
            out.add(c + 100);
        }
        for (int tag = 100; tag <= 109; tag++) {
            int missing = Collections.frequency(source, tag) - Collections.frequency(out, tag);
            for (int k = 0; k < missing; k++) {
                out.add(tag);
                out.add(tag + 100);
            }
        }
        return new ArrayList<>(out.subList(0, Math.min(24, out.size())));
    }

    int fill(int hand, int s) {
        Seg seg = mine(hand, s);
        Ent ent = ents.get(best(s));
        int value = value(s, ent);
        List<Integer> fitted = new ArrayList<>(ent.target);
        List<Integer> from = numbers(ent.source);
        List<Integer> to = numbers(seg.source);
        if (from.size() == to.size()) {
            for (int i = 0; i < fitted.size(); i++) {
                int k = from.indexOf(fitted.get(i));
                if (k >= 0) {
                    fitted.set(i, to.get(k));
                }
            }
        }
        if (ent.source.size() == seg.source.size()) {
            List<Integer> unlike = new ArrayList<>();
            for (int i = 0; i < ent.source.size(); i++) {
                if (!ent.source.get(i).equals(seg.source.get(i))) {
                    unlike.add(i);
                }
            }
            if (unlike.size() == 1) {
                Integer old = wanted.get(ent.source.get(unlike.get(0)));
                Integer next = wanted.get(seg.source.get(unlike.get(0)));
                if (old != null && next != null) {
                    Collections.replaceAll(fitted, old, next);
                }
            }
        }
        seg.target = mended(fitted, seg.source);
        seg.state = value >= 100 ? 't' : 'd';
        return value;
    }

    static List<Integer> numbers(List<Integer> row) {
        List<Integer> out = new ArrayList<>();
        for (int c : row) {
            if (number(c)) {
                out.add(c);
            }
        }
        return out;
    }

    static List<Integer> tags(List<Integer> row) {
        List<Integer> out = new ArrayList<>();
        for (int c : row) {
            if (opening(c) || closing(c)) {
                out.add(c);
            }
        }
        Collections.sort(out);
        return out;
    }

    static boolean wellTagged(List<Integer> row) {
        String text = "";
        for (int c : row) {
            if (opening(c)) {
                text += "(" + (c - 100);
            } else if (closing(c)) {
                text += ")" + (c - 200);
            }
        }
        for (int round = 0; round < 100; round++) {
            for (int tag = 0; tag < 10; tag++) {
                text = text.replace("(" + tag + ")" + tag, "");
            }
        }
        return text.isEmpty();
    }

    int approve(int hand, int s) {
        Seg seg = mine(hand, s);
        if (seg.target == null) {
            throw new IllegalStateException();
        }
        if (!wellTagged(seg.target) || !tags(seg.target).equals(tags(seg.source))) {
            throw new UnsupportedOperationException();
        }
        seg.state = 'a';
        remember(seg, ahead(s));
        int others = 0;
        for (Seg other : segs) {
            if (other != seg && other.source.equals(seg.source) && other.hand < 0
                    && other.state != 'a' && !other.apart) {
                other.target = new ArrayList<>(seg.target);
                other.state = 't';
                others++;
            }
        }
        return others;
    }

    List<Integer> ahead(int s) {
        return s == 0 ? null : segs.get(s - 1).source;
    }

    static boolean sameAhead(List<Integer> a, List<Integer> b) {
        return a == null ? b == null : a.equals(b);
    }

    void remember(Seg seg, List<Integer> ahead) {
        Ent found = null;
        for (Ent ent : ents) {
            if (ent.source.equals(seg.source) && sameAhead(ent.ahead, ahead)) {
                found = ent;
            }
        }
        if (found == null) {
            if (ents.size() == 30) {
                ents.remove(Collections.min(ents, (a, b) -> Integer.compare(a.age, b.age)));
            }
            found = new Ent();
            found.source = new ArrayList<>(seg.source);
            found.ahead = ahead == null ? null : new ArrayList<>(ahead);
            ents.add(found);
        }
        found.target = new ArrayList<>(seg.target);
        found.age = made++;
    }

    boolean setApart(int s, boolean apart) {
        boolean was = seg(s).apart;
        seg(s).apart = apart;
        return was;
    }

    int targetLength(int s) {
        return seg(s).target == null ? -1 : segs.get(s).target.size();
    }

    int targetAt(int s, int i) {
        if (seg(s).target == null) {
            throw new IndexOutOfBoundsException();
        }
        return segs.get(s).target.get(i);
    }

    int faults(int s) {
        Seg seg = seg(s);
        if (seg.target == null) {
            throw new NoSuchElementException();
        }
        List<Integer> a = seg.source;
        List<Integer> b = seg.target;
        List<Integer> an = numbers(a);
        List<Integer> bn = numbers(b);
        Collections.sort(an);
        Collections.sort(bn);
        int sum = 0;
        sum += wellTagged(b) ? 0 : 1;
        sum += tags(a).equals(tags(b)) ? 0 : 2;
        sum += an.equals(bn) ? 0 : 4;
        sum += b.stream().anyMatch(forbidden::contains) ? 8 : 0;
        sum += a.stream().anyMatch(c -> wanted.containsKey(c) && !b.contains(wanted.get(c))) ? 16 : 0;
        sum += b.size() > 2 * a.size() + 2 ? 32 : 0;
        boolean aEnds = !a.isEmpty() && a.get(a.size() - 1) == 0;
        boolean bEnds = !b.isEmpty() && b.get(b.size() - 1) == 0;
        sum += aEnds != bEnds ? 64 : 0;
        return sum;
    }

    int likeness(int s, int other) {
        return likeness(seg(s).source, seg(other).source);
    }

    static int likeness(List<Integer> a, List<Integer> b) {
        int[][] cost = new int[a.size() + 1][b.size() + 1];
        for (int i = 0; i <= a.size(); i++) {
            for (int j = 0; j <= b.size(); j++) {
                if (i == 0 || j == 0) {
                    cost[i][j] = i + j;
                    continue;
                }
                int x = a.get(i - 1);
                int y = b.get(j - 1);
                int change = x == y || number(x) && number(y) ? 0 : 1;
                cost[i][j] = Math.min(cost[i - 1][j - 1] + change,
                        Math.min(cost[i - 1][j], cost[i][j - 1]) + 1);
            }
        }
        int most = Math.max(a.size(), b.size());
        return most == 0 ? 100 : Math.max(0, 100 - cost[a.size()][b.size()] * 100 / most);
    }

    int entries() {
        return ents.size();
    }

    int ageOf(int e) {
        return ents.get(e).age;
    }

    int value(int s, Ent ent) {
        int like = likeness(segs.get(s).source, ent.source);
        if (like < 50) {
            return 0;
        }
        int value = like;
        if (!tags(segs.get(s).source).equals(tags(ent.source))) {
            value -= 10;
        }
        if (like == 100 && sameAhead(ahead(s), ent.ahead)) {
            value += 1;
        }
        return value;
    }

    int valueFor(int s, int e) {
        seg(s);
        return value(s, ents.get(e));
    }

    int best(int s) {
        int best = -1;
        for (int e = 0; e < ents.size(); e++) {
            int value = value(s, ents.get(e));
            if (value > 0 && (best < 0 || value > value(s, ents.get(best))
                    || value == value(s, ents.get(best)) && ents.get(e).age > ents.get(best).age)) {
                best = e;
            }
        }
        if (best < 0) {
            throw new NoSuchElementException();
        }
        return best;
    }

    int bestFor(int s) {
        seg(s);
        return best(s);
    }

    int want(int w, int other) {
        if (!word(w) || other != 0 && !word(other)) {
            throw new IllegalArgumentException();
        }
        Integer was = other == 0 ? wanted.remove(w) : wanted.put(w, other);
        return was == null ? 0 : was;
    }

    boolean forbid(int w, boolean is) {
        if (!word(w)) {
            throw new IllegalArgumentException();
        }
        return is ? !forbidden.add(w) : forbidden.remove(w);
    }

    List<Integer> whole() {
        List<Integer> out = new ArrayList<>();
        int next = 0;
        int skip = 0;
        for (int c : file) {
            if (skip > 0) {
                skip--;
            } else if (piece(c)) {
                out.add(c);
            } else {
                Seg seg = segs.get(next++);
                out.addAll(seg.target == null ? seg.source : seg.target);
                skip = seg.source.size() - 1;
            }
        }
        return out;
    }

    int together() {
        return whole().size();
    }

    int togetherAt(int i) {
        return whole().get(i);
    }

    long sum() {
        long sum = 7;
        for (int c : whole()) {
            sum = sum * 31 + c;
        }
        return sum;
    }

    float approvedShare() {
        if (segs.isEmpty()) {
            throw new ArithmeticException();
        }
        return (float) segs.stream().filter(s -> s.state == 'a').count() / (float) segs.size();
    }

    double meanValue() {
        if (segs.isEmpty()) {
            throw new ArithmeticException();
        }
        int values = 0;
        for (int s = 0; s < segs.size(); s++) {
            int most = 0;
            for (Ent ent : ents) {
                most = Math.max(most, value(s, ent));
            }
            values += most;
        }
        return (double) values / (double) segs.size();
    }
}
