import java.util.NoSuchElementException;

/** What the tests share: a count of wrong answers, and short ways to make a bench. */
final class Due {
    interface Call {
        Object run();
    }

    static final Class<?> PLACE = IndexOutOfBoundsException.class;
    static final Class<?> ARGUMENT = IllegalArgumentException.class;
    static final Class<?> STATE = IllegalStateException.class;
    static final Class<?> MISSING = NoSuchElementException.class;
    static final Class<?> UNSUPPORTED = UnsupportedOperationException.class;
    static final Class<?> ARITHMETIC = ArithmeticException.class;

    private static int wrong = 0;

    private Due() {
    }

    static void is(String what, Object got, Object due) {
        if (!got.equals(due)) {
            wrong++;
            System.out.println(what + " answered " + got + ", due is " + due);
        }
    }

    static void fails(String what, Class<?> due, Call call) {
        Object got;
        try {
            got = call.run();
        } catch (RuntimeException e) {
            got = e.getClass();
        }
        is(what, got, due);
    }

    /** A call that throws must leave the bench as it was. */
    static void failsAndChangesNothing(Tongueworks x, String what, Class<?> due, Call call) {
        String before = stateOf(x);
        fails(what, due, call);
        is(what + ", the state behind it", stateOf(x), before);
    }

    static void close() {
        System.out.println(wrong == 0 ? "all answers are as due" : wrong + " answers are not as due");
        if (wrong != 0) {
            System.exit(1);
        }
    }

    static Tongueworks bench(int... codes) {
        Tongueworks x = new Tongueworks();
        version(x, codes);
        return x;
    }

    static int version(Tongueworks x, int... codes) {
        x.begin();
        for (int code : codes) {
            x.add(code);
        }
        return x.take();
    }

    /** Holds the segment by the hand 0, gives it this target, and approves it. */
    static int approve(Tongueworks x, int segment, int... target) {
        target(x, segment, target);
        return x.approve(0, segment);
    }

    static void target(Tongueworks x, int segment, int... codes) {
        x.hold(0, segment);
        x.clear(0, segment);
        for (int code : codes) {
            x.write(0, segment, code);
        }
    }

    static String source(Tongueworks x, int segment) {
        StringBuilder text = new StringBuilder();
        int codes = x.length(segment);
        for (int i = 0; i < codes; i++) {
            text.append(i == 0 ? "" : " ").append(x.sourceAt(segment, i));
        }
        return text.toString();
    }

    static String sources(Tongueworks x) {
        StringBuilder text = new StringBuilder();
        int segments = x.segments();
        for (int i = 0; i < segments; i++) {
            text.append(i == 0 ? "" : "|").append(source(x, i));
        }
        return text.toString();
    }

    static String target(Tongueworks x, int segment) {
        int codes = x.targetLength(segment);
        if (codes < 0) {
            return "none";
        }
        StringBuilder text = new StringBuilder();
        for (int i = 0; i < codes; i++) {
            text.append(i == 0 ? "" : " ").append(x.targetAt(segment, i));
        }
        return text.toString();
    }

    static String states(Tongueworks x) {
        StringBuilder text = new StringBuilder();
        int segments = x.segments();
        for (int i = 0; i < segments; i++) {
            text.append(x.stateOf(i));
        }
        return text.toString();
    }

    static String together(Tongueworks x) {
        StringBuilder text = new StringBuilder();
        int codes = x.together();
        for (int i = 0; i < codes; i++) {
            text.append(i == 0 ? "" : " ").append(x.togetherAt(i));
        }
        return text.toString();
    }

    /** Told in few calls, as a bench is used for 512 at most. */
    private static String stateOf(Tongueworks x) {
        StringBuilder text = new StringBuilder(states(x));
        int segments = x.segments();
        for (int i = 0; i < segments; i++) {
            text.append(' ').append(x.length(i)).append('/').append(x.targetLength(i));
        }
        text.append(' ').append(x.sum());
        int entries = x.entries();
        for (int i = 0; i < entries; i++) {
            text.append(' ').append(x.ageOf(i));
        }
        return text.toString();
    }
}
