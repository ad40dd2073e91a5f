import java.util.Random;

/** Long runs of calls, drawn from fixed seeds, each answer compared with that of Plain. */
public final class RandomRunsTest {
    private static final int RUNS = 4000;
    private static final int CALLS = 512;

    private final Random random;
    private final int words;
    private final int codes;
    private final boolean isWild;
    /** Short files of many words, nearly always approved: such runs fill the memory. */
    private final boolean isBusy;
    private final int numberShare;
    private Tongueworks bench = new Tongueworks();
    private Plain plain = new Plain();
    private final StringBuilder told = new StringBuilder();
    private final int run;
    private int calls = 0;

    private RandomRunsTest(int run) {
        this.run = run;
        random = new Random(7919L * run + 13);
        isBusy = run % 5 == 2;
        words = isBusy ? 60 : 1 + random.nextInt(run % 3 == 0 ? 2 : 6);
        codes = isBusy ? 6 : run % 10 == 0 ? 80 : 6 + random.nextInt(30);
        numberShare = run % 7 == 1 ? 6 : 2;
        isWild = run % 4 == 0;
    }

    public static void main(String[] args) {
        for (int run = 0; run < RUNS; run++) {
            RandomRunsTest test = new RandomRunsTest(run);
            if (!test.isAsDue()) {
                break;
            }
        }
        Due.close();
    }

    private boolean isAsDue() {
        boolean isSame = version(null) && (run % 5 != 4 || terms());
        while (isSame && calls < CALLS) {
            int kind = random.nextInt(100);
            if (isBusy && kind < 50) {
                isSame = busy();
            } else if (kind < 3) {
                isSame = version(plain);
            } else if (kind < 12) {
                isSame = work();
            } else {
                isSame = one(random.nextInt(36));
            }
        }
        return isSame;
    }

    /** A new file: drawn anew, or the old one with a few changes. */
    private boolean version(Plain old) {
        boolean isSame = same("begin", () -> (Object) bench.begin(), () -> plain.begin());
        int kept = old != null && !isBusy && random.nextInt(3) > 0 ? old.file.size() : 0;
        int count = kept > 0 ? kept : random.nextInt(codes + 1);
        for (int i = 0; i < count && isSame; i++) {
            int code = kept > 0 && random.nextInt(12) > 0 ? old.file.get((i + random.nextInt(40) / 39) % kept) : code();
            isSame = same("add " + code, () -> (Object) bench.add(code), () -> plain.add(code));
        }
        return isSame && same("take", () -> (Object) bench.take(), () -> plain.take());
    }

    /** A new file, and each of its segments approved. */
    private boolean busy() {
        boolean isSame = version(null);
        for (int i = 0; i < plain.segs.size() && isSame; i++) {
            int s = i;
            isSame = same("hold 0 " + s, () -> (Object) bench.hold(0, s), () -> plain.hold(0, s))
                    && same("copy 0 " + s, () -> (Object) bench.copy(0, s), () -> plain.copy(0, s))
                    && same("approve 0 " + s, () -> (Object) bench.approve(0, s), () -> plain.approve(0, s));
        }
        return isSame;
    }

    /** A wanted word for each word, so that near matches are mended by terms. */
    private boolean terms() {
        boolean isSame = true;
        for (int i = 1; i <= words && isSame; i++) {
            int word = i;
            int wanted = 1 + i % words;
            isSame = same("want " + word + " " + wanted,
                    () -> (Object) bench.want(word, wanted), () -> plain.want(word, wanted));
        }
        return isSame;
    }

    /** Holds a segment, gives it a target, and approves it. */
    private boolean work() {
        int hand = random.nextInt(4);
        int s = segment();
        boolean isSame = same("hold " + hand + " " + s, () -> (Object) bench.hold(hand, s), () -> plain.hold(hand, s));
        int way = random.nextInt(4);
        if (way == 0) {
            isSame &= same("copy " + hand + " " + s, () -> (Object) bench.copy(hand, s), () -> plain.copy(hand, s));
        } else if (way == 1) {
            isSame &= filled(hand, s);
        }
        for (int i = random.nextInt(6); i > 0 && way != 0 && isSame; i--) {
            int code = code();
            isSame = same("write " + hand + " " + s + " " + code,
                    () -> (Object) bench.write(hand, s, code), () -> plain.write(hand, s, code));
        }
        isSame = isSame && same("mend " + hand + " " + s, () -> (Object) bench.mend(hand, s), () -> plain.mend(hand, s));
        isSame = isSame && same("approve " + hand + " " + s,
                () -> (Object) bench.approve(hand, s), () -> plain.approve(hand, s));
        if (random.nextInt(3) > 0) {
            isSame = isSame && same("letGo " + hand + " " + s,
                    () -> (Object) bench.letGo(hand, s), () -> plain.letGo(hand, s));
        }
        return isSame;
    }

    /** The sum behind it tells whether the target was fitted well. */
    private boolean filled(int hand, int s) {
        return same("fill " + hand + " " + s, () -> (Object) bench.fill(hand, s), () -> plain.fill(hand, s))
                && same("sum", () -> (Object) bench.sum(), () -> plain.sum());
    }

    private int odd() {
        int[] odd = {-1, 0, 80, 100, 300, 310, Integer.MAX_VALUE, Integer.MIN_VALUE, 24, 3};
        return odd[random.nextInt(odd.length)];
    }

    private int code() {
        int kind = random.nextInt(20);
        if (isWild && kind == 19) {
            return odd();
        }
        if (kind < 9) {
            return 1 + random.nextInt(words);
        }
        if (kind < 13 - numberShare / 2) {
            return isBusy ? 1 + random.nextInt(words) : 0;
        }
        if (kind < 13 + numberShare / 2) {
            return isBusy ? 0 : 80 + random.nextInt(3);
        }
        if (kind < 15) {
            return 0;
        }
        if (kind < 17) {
            return 100 + random.nextInt(2);
        }
        return kind < 19 ? 200 + random.nextInt(2) : 300 + random.nextInt(2);
    }

    private int word() {
        return random.nextInt(12) == 0 ? odd() : 1 + random.nextInt(words);
    }

    private int segment() {
        return random.nextInt(25) == 0 ? odd() : random.nextInt(Math.max(1, plain.segs.size()));
    }

    private int place() {
        return random.nextInt(25) == 0 ? odd() : random.nextInt(Math.max(1, plain.file.size()));
    }

    private int entry() {
        return random.nextInt(15) == 0 ? odd() : random.nextInt(Math.max(1, plain.ents.size()));
    }

    private boolean one(int kind) {
        int hand = random.nextInt(30) == 0 ? odd() : random.nextInt(2);
        int s = segment();
        boolean flag = random.nextBoolean();
        if (kind < 12) {
            return oneOfFiles(kind, s, flag);
        }
        return kind < 22 ? oneOfHands(kind, hand, s, flag) : oneOfMemory(kind, s, flag);
    }

    private boolean oneOfFiles(int kind, int s, boolean flag) {
        int word = word();
        int i = place();
        switch (kind) {
            case 0:
                return random.nextInt(4) > 0 || same("setException " + word + flag,
                        () -> (Object) bench.setException(word, flag), () -> plain.setException(word, flag));
            case 1:
                return same("cutAt " + i + flag, () -> (Object) bench.cutAt(i, flag), () -> plain.cutAt(i, flag));
            case 2:
                return same("segments", () -> (Object) bench.segments(), () -> plain.segs.size());
            case 3:
                return same("length " + s, () -> (Object) bench.length(s), () -> plain.length(s));
            case 4:
                return same("sourceAt " + s + " " + i, () -> (Object) bench.sourceAt(s, i), () -> plain.sourceAt(s, i));
            case 5:
                return same("take", () -> (Object) bench.take(), () -> plain.take());
            case 6:
                return same("together", () -> (Object) bench.together(), () -> plain.together());
            case 7:
                return same("togetherAt " + i, () -> (Object) bench.togetherAt(i), () -> plain.togetherAt(i));
            case 8:
                return same("sum", () -> (Object) bench.sum(), () -> plain.sum());
            case 9:
                return same("approvedShare", () -> (Object) bench.approvedShare(), () -> plain.approvedShare());
            case 10:
                return same("meanValue", () -> (Object) bench.meanValue(), () -> plain.meanValue());
            default:
                return same("isSound", () -> (Object) bench.isSound(), () -> true);
        }
    }

    private boolean oneOfHands(int kind, int hand, int s, boolean flag) {
        int code = code();
        String who = " " + hand + " " + s;
        switch (kind) {
            case 12:
                return same("hold" + who, () -> (Object) bench.hold(hand, s), () -> plain.hold(hand, s));
            case 13:
                return same("letGo" + who, () -> (Object) bench.letGo(hand, s), () -> plain.letGo(hand, s));
            case 14:
            case 15:
                return same("write" + who + " " + code,
                        () -> (Object) bench.write(hand, s, code), () -> plain.write(hand, s, code));
            case 16:
                return same("copy" + who, () -> (Object) bench.copy(hand, s), () -> plain.copy(hand, s));
            case 17:
                return same("clear" + who, () -> (Object) bench.clear(hand, s), () -> plain.clear(hand, s));
            case 18:
                return same("mend" + who, () -> (Object) bench.mend(hand, s), () -> plain.mend(hand, s));
            case 19:
                return filled(hand, s);
            case 20:
                return same("approve" + who, () -> (Object) bench.approve(hand, s), () -> plain.approve(hand, s));
            default:
                return same("setApart " + s + flag,
                        () -> (Object) bench.setApart(s, flag), () -> plain.setApart(s, flag));
        }
    }

    private boolean oneOfMemory(int kind, int s, boolean flag) {
        int word = word();
        int wanted = random.nextInt(3) == 0 ? 0 : word();
        int e = entry();
        int other = segment();
        int i = random.nextInt(4);
        switch (kind) {
            case 22:
                return same("stateOf " + s, () -> (Object) bench.stateOf(s), () -> plain.stateOf(s));
            case 23:
                return same("targetLength " + s, () -> (Object) bench.targetLength(s), () -> plain.targetLength(s));
            case 24:
                return same("targetAt " + s + " " + i, () -> (Object) bench.targetAt(s, i), () -> plain.targetAt(s, i));
            case 25:
                return same("faults " + s, () -> (Object) bench.faults(s), () -> plain.faults(s));
            case 26:
                return same("likeness " + s + " " + other,
                        () -> (Object) bench.likeness(s, other), () -> plain.likeness(s, other));
            case 27:
                return same("entries", () -> (Object) bench.entries(), () -> plain.entries());
            case 28:
                return same("ageOf " + e, () -> (Object) bench.ageOf(e), () -> plain.ageOf(e));
            case 29:
            case 30:
                return same("valueFor " + s + " " + e,
                        () -> (Object) bench.valueFor(s, e), () -> plain.valueFor(s, e));
            case 31:
                return same("bestFor " + s, () -> (Object) bench.bestFor(s), () -> plain.bestFor(s));
            case 32:
                return same("bestAnew " + s, () -> (Object) bench.bestAnew(s), () -> plain.bestFor(s));
            case 33:
                return same("want " + word + " " + wanted,
                        () -> (Object) bench.want(word, wanted), () -> plain.want(word, wanted));
            case 34:
                return same("forbid " + word + flag,
                        () -> (Object) bench.forbid(word, flag), () -> plain.forbid(word, flag));
            default:
                return random.nextInt(3) > 0 || same("begin", () -> (Object) bench.begin(), () -> plain.begin())
                        && (random.nextInt(4) > 0 || same("begin", () -> (Object) bench.begin(), () -> plain.begin()))
                        && same("take", () -> (Object) bench.take(), () -> plain.take());
        }
    }

    private boolean same(String call, Due.Call got, Due.Call due) {
        if (calls >= CALLS) {
            return true;
        }
        calls++;
        Object right = answer(due);
        Object answer = answer(got);
        told.append(call).append(" = ").append(answer).append('\n');
        if (answer.equals(right)) {
            return true;
        }
        System.out.println(told);
        Due.is("run " + run + ", call " + calls + ", " + call, answer, right);
        return false;
    }

    /** An exception of the machine, in either, is none of the document's: its class is told as it is. */
    private static Object answer(Due.Call call) {
        try {
            return call.run();
        } catch (ArrayIndexOutOfBoundsException | NegativeArraySizeException | NullPointerException e) {
            return "the machine threw " + e;
        } catch (IndexOutOfBoundsException e) {
            return Due.PLACE;
        } catch (RuntimeException e) {
            return e.getClass();
        }
    }
}
