import java.util.function.Supplier;

/** Benches that calls are tried on, and all that can be asked of a bench, told as a text. */
final class Scenes {
    /** A call on a bench. */
    interface Act {
        Object on(Tongueworks x);
    }

    private static final int HANDS = 4;
    private static final int WORDS = 79;

    private Scenes() {
    }

    /**
     * Five segments: 0 approved and held by the hand 0, 1 a draft held by 3, 2 ill tagged and held by 1, 3 apart,
     * without a target and free, 4 held by 0 and without a target. The file ends with a piece, at the index 19.
     */
    static Tongueworks rich() {
        Tongueworks x = new Tongueworks();
        x.setException(7, true);
        x.want(1, 11);
        x.want(2, 12);
        x.forbid(40, true);
        Due.version(x, 300, 1, 2, 0, 3, 7, 0, 4, 0, 301, 100, 5, 200, 0, 1, 2, 0, 5, 6, 300);
        x.cutAt(17, true);
        x.cutAt(13, false);
        Due.approve(x, 0, 11, 0);
        x.hold(3, 1);
        x.write(3, 1, 8);
        x.hold(1, 2);
        x.write(1, 2, 100);
        x.setApart(3, true);
        x.hold(0, 4);
        return x;
    }

    /** The same, with a version of two codes that was begun. */
    static Tongueworks begun() {
        Tongueworks x = rich();
        x.begin();
        x.add(1);
        x.add(2);
        return x;
    }

    /** The same, with a version of 80 codes that was begun. */
    static Tongueworks fullDraft() {
        Tongueworks x = begun();
        for (int i = 2; i < 80; i++) {
            x.add(1);
        }
        return x;
    }

    /** The segment 0 of this has 24 codes, is approved and held by the hand 2; the segment 1 is a draft of it. */
    static Tongueworks fullTarget() {
        Tongueworks x = Due.bench(1, 0, 2, 0);
        for (int segment = 0; segment < 2; segment++) {
            x.hold(2, segment);
            for (int i = 0; i < 24; i++) {
                x.write(2, segment, 5);
            }
        }
        x.approve(2, 0);
        return x;
    }

    /** Thirty segments of one word each, 1 to 30, all approved in order; the segment 30 is ill tagged. */
    static Tongueworks fullMemory() {
        Tongueworks x = new Tongueworks();
        x.begin();
        for (int word = 1; word <= 31; word++) {
            x.add(word);
            x.add(300);
        }
        x.take();
        for (int segment = 0; segment < 30; segment++) {
            x.hold(0, segment);
            x.copy(0, segment);
            x.approve(0, segment);
        }
        x.hold(0, 30);
        x.write(0, 30, 100);
        return x;
    }

    static Tongueworks empty() {
        return new Tongueworks();
    }

    /** The answer of a call: what it returns, or the class of what it throws. */
    static String answer(Tongueworks x, Act act) {
        try {
            return String.valueOf(act.on(x));
        } catch (RuntimeException e) {
            return e.getClass().getSimpleName();
        }
    }

    /** All that can be asked of the bench behind the call; asked of several benches, as some questions change it. */
    static String told(Supplier<Tongueworks> scene, Act act) {
        StringBuilder text = new StringBuilder();
        for (int part = 0; part < 4; part++) {
            Tongueworks x = scene.get();
            answer(x, act);
            text.append(part == 0 ? figures(x) : part == 1 ? owners(x) : part == 2 ? matches(x) : words(x));
            text.append('\n');
        }
        return text.toString();
    }

    static String figures(Tongueworks x) {
        StringBuilder text = new StringBuilder();
        text.append(sources(x)).append(' ').append(Due.states(x)).append(' ').append(x.together());
        text.append(' ').append(x.sum()).append(' ').append(x.isSound());
        text.append(' ').append(answer(x, b -> b.approvedShare())).append(' ').append(answer(x, b -> b.meanValue()));
        for (int i = 0; i < x.entries(); i++) {
            text.append(' ').append(x.ageOf(i));
        }
        text.append(" version ").append(answer(x, b -> b.begin())).append(answer(x, b -> b.add(1)));
        text.append(answer(x, b -> b.take())).append(' ').append(sources(x));
        return text.toString();
    }

    /** The sum tells the codes of long files in fewer calls than one for each code. */
    private static String sources(Tongueworks x) {
        StringBuilder text = new StringBuilder();
        for (int i = 0; i < x.segments(); i++) {
            text.append(x.segments() > 10 ? String.valueOf(x.length(i)) : Due.source(x, i)).append('|');
        }
        return text.append(x.sum()).toString();
    }

    private static String owners(Tongueworks x) {
        StringBuilder text = new StringBuilder();
        for (int i = 0; i < Math.min(10, x.segments()); i++) {
            int segment = i;
            text.append(Due.target(x, i)).append(x.setApart(i, false) ? " apart" : "").append(" held ");
            for (int h = 0; h < HANDS; h++) {
                int hand = h;
                text.append(answer(x, b -> b.letGo(hand, segment))).append(' ');
            }
        }
        return text.toString();
    }

    /** The targets of entries are told by filling the segments that have them as their matches. */
    private static String matches(Tongueworks x) {
        StringBuilder text = new StringBuilder();
        for (int i = 0; i < Math.min(10, x.segments()); i++) {
            int segment = i;
            for (int h = 0; h < HANDS; h++) {
                int hand = h;
                text.append(answer(x, b -> b.fill(hand, segment))).append(' ');
            }
            text.append(Due.target(x, i)).append(' ').append(answer(x, b -> b.bestFor(segment)));
            for (int e = 0; e < Math.min(3, x.entries()); e++) {
                text.append(' ').append(x.valueFor(i, e));
            }
        }
        return text.toString();
    }

    private static String words(Tongueworks x) {
        StringBuilder text = new StringBuilder();
        for (int word = 1; word <= WORDS; word++) {
            text.append(x.want(word, 0)).append(x.forbid(word, false) ? "f" : "");
            text.append(x.setException(word, false) ? "e" : "").append(' ');
        }
        return text.append(x.segments()).append(' ').append(Due.states(x)).toString();
    }
}
