import java.math.BigInteger;

/** The sentences of the document that name a boundary: a new object, and promises 1 and 31 to 36. */
public final class EdgesOfTogetherTest {
    public static void main(String[] args) {
        withoutAll();
        greatestNumberOfCodes();
        eachCallByItself();
        sevenAtFirst();
        asLongsGoRound();
        shareOfAll();
        meanOfAll();
        asItWas();
        callsOfOneObject();
        Due.close();
    }

    private static void withoutAll() {
        String text = "1 'a bench without codes, rules, entries and terms': ";
        Tongueworks x = new Tongueworks();
        Due.is(text + "7", x.segments(), 0);
        Due.is(text + "24", x.entries(), 0);
        Due.is(text + "31", x.together(), 0);
        Due.is(text + "33", x.sum(), 7L);
        Due.is(text + "36", x.isSound(), true);
        Due.fails(text + "34", Due.ARITHMETIC, () -> x.approvedShare());
        Due.fails(text + "35", Due.ARITHMETIC, () -> x.meanValue());
        Due.fails(text + "25", Due.PLACE, () -> x.ageOf(0));
        Due.fails(text + "4", Due.STATE, () -> x.take());
        Due.fails(text + "3", Due.STATE, () -> x.add(0));
        for (int word = 1; word <= 79; word++) {
            Due.is(text + "5", x.setException(word, false), false);
            Due.is(text + "29", x.want(word, 0), 0);
            Due.is(text + "30", x.forbid(word, false), false);
        }
        Due.is(text + "2", x.begin(), 0);
        Due.is(text + "3 the first", x.add(0), 1);
        Tongueworks other = Scenes.begun();
        Due.is(text + "another object", other.segments() + other.entries(), 6);
        Due.is(text + "is another one", x.segments() + x.entries(), 0);
    }

    private static void greatestNumberOfCodes() {
        String text = "31 32 'the file put together': ";
        Tongueworks x = new Tongueworks();
        x.begin();
        for (int i = 0; i < 80; i++) {
            x.add(i % 2 == 0 ? 5 : 309);
        }
        x.take();
        Due.is(text + "as it was", x.together(), 80);
        x.hold(0, 0);
        for (int i = 0; i < 24; i++) {
            x.write(0, 0, i);
        }
        Due.is(text + "39 others", x.approve(0, 0), 39);
        Due.is(text + "40 times 25", x.together(), 1000);
        Due.is(text + "the first code", x.togetherAt(0), 0);
        Due.is(text + "the last code of a target", x.togetherAt(23), 23);
        Due.is(text + "the piece behind it", x.togetherAt(24), 309);
        Due.is(text + "the last piece", x.togetherAt(999), 309);
        Due.fails(text + "none behind it", Due.PLACE, () -> x.togetherAt(1000));
        Due.fails(text + "none ahead of it", Due.PLACE, () -> x.togetherAt(-1));
        Due.is(text + "36", x.isSound(), true);
        Tongueworks y = Due.bench(200, 300);
        Due.target(y, 0, 201);
        y.mend(0, 0);
        Due.is(text + "an empty target and a piece", y.together() + y.togetherAt(0), 301);
        Due.fails(text + "so just one code", Due.PLACE, () -> y.togetherAt(1));
        Due.version(y, 200);
        Due.is(text + "an empty target alone", y.together(), 0);
        Due.is(text + "33 of it", y.sum(), 7L);
        Due.fails(text + "no code", Due.PLACE, () -> y.togetherAt(0));
    }

    /** What was put together before must not be told again. */
    private static void eachCallByItself() {
        String text = "31 32 33 'for each segment its target, if it has one, and its source otherwise': ";
        Tongueworks x = Due.bench(300, 1, 2, 0, 3);
        Due.is(text + "32 alone", x.togetherAt(4), 3);
        Due.target(x, 1, 9, 8);
        Due.is(text + "32 a target", x.togetherAt(5), 8);
        Due.is(text + "36", x.isSound(), true);
        Due.is(text + "32 behind 36", x.togetherAt(4), 9);
        Due.is(text + "36 again", x.isSound(), true);
        Due.is(text + "33 behind 36", x.sum(), Due.bench(300, 1, 2, 0, 9, 8).sum());
        Due.is(text + "36 once more", x.isSound(), true);
        Due.is(text + "31 behind 36", x.together(), 6);
        x.clear(0, 1);
        Due.is(text + "32 cleared", x.togetherAt(4), 3);
        Due.fails(text + "32 and shorter", Due.PLACE, () -> x.togetherAt(5));
        Due.target(x, 0, 7);
        Due.is(text + "33 another target", x.sum(), Due.bench(300, 7, 3).sum());
        Due.version(x, 4);
        Due.is(text + "32 another version", x.togetherAt(0), 4);
    }

    private static void sevenAtFirst() {
        String text = "33 '7 at first, then 31 times it plus the next code': ";
        Due.is(text + "no codes", new Tongueworks().sum(), 7L);
        Due.is(text + "an empty file", Due.bench().sum(), 7L);
        Due.is(text + "the code 0 counts", Due.bench(0).sum(), 217L);
        Due.is(text + "two codes in order", Due.bench(1, 2).sum(), 218L * 31 + 2);
        Due.is(text + "and in another order", Due.bench(2, 1).sum(), 219L * 31 + 1);
        Due.is(text + "a piece", Due.bench(309).sum(), 217L + 309);
    }

    private static void asLongsGoRound() {
        String text = "33 'as longs go round': ";
        boolean wasNegative = false;
        for (int count = 1; count <= 80; count++) {
            Tongueworks x = new Tongueworks();
            x.begin();
            BigInteger due = BigInteger.valueOf(7);
            for (int i = 0; i < count; i++) {
                int code = (i * 37 + count) % 110;
                x.add(code);
                due = due.multiply(BigInteger.valueOf(31)).add(BigInteger.valueOf(code));
            }
            x.take();
            Due.is(text + count, x.sum(), due.longValue());
            wasNegative |= due.longValue() < 0;
        }
        Due.is(text + "also to less than 0", wasNegative, true);
    }

    private static void shareOfAll() {
        String text = "34 'their number divided by that of all, both converted to float': ";
        Tongueworks x = Due.bench(1, 300, 2, 300, 3, 300, 4, 300, 5, 300, 6, 300, 7);
        Due.is(text + "none", x.approvedShare(), 0f);
        for (int i = 0; i < 7; i++) {
            Due.approve(x, i, 9);
            Due.is(text + (i + 1), x.approvedShare(), (float) (i + 1) / (float) 7);
        }
        Due.is(text + "all", x.approvedShare(), 1f);
        x.write(0, 0, 8);
        Due.is(text + "a draft is none", x.approvedShare(), 6f / 7f);
        Tongueworks y = Due.bench(1, 0, 1, 0, 1, 0);
        Due.approve(y, 0, 9);
        Due.is(text + "those translated are none", y.approvedShare(), 1f / 3f);
        Due.is(text + "one of one", oneOfOne(), 1f);
    }

    private static float oneOfOne() {
        Tongueworks x = Due.bench(300, 1, 301);
        Due.approve(x, 0, 9);
        return x.approvedShare();
    }

    private static void meanOfAll() {
        String text = "35 '0 for those without one', 'both converted to double': ";
        Tongueworks x = Due.bench(1, 2, 300, 3, 300, 4, 300, 5, 300, 6, 300, 7, 300, 1, 8);
        Due.is(text + "no entries", x.meanValue(), 0.0);
        Due.approve(x, 0, 9);
        Due.is(text + "two of seven", x.meanValue(), (101.0 + 50.0) / 7.0);
        Due.approve(x, 6, 9);
        Due.is(text + "the best match counts", x.meanValue(), (101.0 + 101.0) / 7.0);
        Due.version(x, 5);
        Due.is(text + "one of one without", x.meanValue(), 0.0);
        Due.version(x, 1, 2);
        Due.is(text + "one of one with", x.meanValue(), 101.0);
    }

    /** 'A file whose targets are its sources is put together just as it was.' */
    private static void asItWas() {
        String text = "31 32 33 'put together just as it was': ";
        int[] codes = {300, 100, 1, 200, 0, 2, 80, 0, 301, 302, 0, 3, 99, 309};
        Tongueworks x = Due.bench(codes);
        for (int i = 0; i < x.segments(); i++) {
            x.hold(1, i);
            x.copy(1, i);
        }
        Due.is(text + "its codes", x.together(), codes.length);
        for (int i = 0; i < codes.length; i++) {
            Due.is(text + "the code " + i, x.togetherAt(i), codes[i]);
        }
        Due.is(text + "its sum", x.sum(), Due.bench(codes).sum());
    }

    /** 'An object is used for at most 512 calls': the 512th answers as is due. */
    private static void callsOfOneObject() {
        String text = "the 512th call: ";
        Tongueworks x = Due.bench(1, 0);
        x.hold(0, 0);
        x.write(0, 0, 9);
        for (int i = 6; i < 511; i++) {
            x.approve(0, 0);
        }
        Due.is(text + "25", x.ageOf(0), 504);
        Tongueworks y = new Tongueworks();
        for (int i = 0; i < 511; i++) {
            Due.is(text + "5", y.setException(3, i % 2 == 0), i % 2 == 1);
        }
        Due.is(text + "5 the last", y.setException(3, false), true);
        Tongueworks z = new Tongueworks();
        for (int i = 0; i < 255; i++) {
            z.begin();
            z.take();
        }
        Due.is(text + "2", z.begin(), 255);
        Due.is(text + "4", z.take(), 0);
    }
}
