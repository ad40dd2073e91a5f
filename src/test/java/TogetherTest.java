/** Promises 31 to 36: the file put together, its figures, and soundness. */
public final class TogetherTest {
    public static void main(String[] args) {
        puttingTogether();
        greatestFile();
        sums();
        shares();
        means();
        soundness();
        Due.close();
    }

    private static void puttingTogether() {
        Tongueworks x = Due.bench(300, 1, 2, 0, 3, 0, 301, 302, 4, 303);
        Due.is("31 as it was", x.together(), 10);
        Due.is("32 as it was", Due.together(x), "300 1 2 0 3 0 301 302 4 303");
        Due.target(x, 1, 21, 22, 23, 0);
        Due.is("31 a longer target", x.together(), 12);
        Due.is("32 a longer target", Due.together(x), "300 1 2 0 21 22 23 0 301 302 4 303");
        Due.target(x, 0, 24);
        Due.is("32 a shorter target", Due.together(x), "300 24 21 22 23 0 301 302 4 303");
        x.clear(0, 1);
        Due.is("32 cleared", Due.together(x), "300 24 3 0 301 302 4 303");
        int[] wrong = {-1, 8, Integer.MAX_VALUE, Integer.MIN_VALUE};
        for (int index : wrong) {
            Due.fails("32 no code " + index, Due.PLACE, () -> x.togetherAt(index));
        }
        Due.is("32 the last code", x.togetherAt(7), 303);
        x.begin();
        x.add(1);
        Due.is("31 the version that was taken", x.together(), 8);
        x.take();
        Due.is("31 the new one", Due.together(x), "1");
        Tongueworks y = Due.bench(300, 301);
        Due.is("31 only pieces", Due.together(y), "300 301");
        Tongueworks z = new Tongueworks();
        Due.is("31 nothing", z.together(), 0);
        Due.fails("32 nothing", Due.PLACE, () -> z.togetherAt(0));
        Tongueworks w = Due.bench(200, 300);
        Due.target(w, 0, 201);
        w.mend(0, 0);
        Due.is("31 an empty target", Due.together(w), "300");
    }

    /** 79 segments of one code and one of two, each with 24 codes. */
    private static void greatestFile() {
        Tongueworks x = new Tongueworks();
        x.begin();
        for (int i = 0; i < 80; i++) {
            x.add(0);
        }
        x.take();
        Due.is("31 the greatest number of segments by rule", x.segments(), 79);
        Due.is("31 and by hand", x.cutAt(0, true), 80);
        x.hold(0, 0);
        for (int i = 0; i < 24; i++) {
            x.write(0, 0, 5);
        }
        Due.is("18 all others follow", x.approve(0, 0), 79);
        Due.is("31 the greatest file", x.together(), 1920);
        Due.is("32 its last code", x.togetherAt(1919), 5);
        Due.fails("32 none behind", Due.PLACE, () -> x.togetherAt(1920));
        Due.is("34 one of 80", x.approvedShare(), 1f / 80f);
        Due.is("35 the first has none ahead", x.meanValue(), (101.0 + 79 * 100) / 80.0);
        Due.is("36 sound", x.isSound(), true);
        Due.is("5 nothing goes", x.setException(7, true), false);
        Due.is("31 it stays", x.together(), 1920);
        Due.is("6 80 segments are joined to 79", x.cutAt(0, false), 79);
        Due.is("31 78 have kept theirs", x.together(), 78 * 24 + 2);
        Due.is("36 sound still", x.isSound(), true);
    }

    private static void sums() {
        Tongueworks x = new Tongueworks();
        Due.is("33 nothing", x.sum(), 7L);
        Due.version(x, 5);
        Due.is("33 one", x.sum(), 7L * 31 + 5);
        Due.version(x, 300, 0, 9, 309);
        Due.is("33 four", x.sum(), (((7L * 31 + 300) * 31 + 0) * 31 + 9) * 31 + 309);
        Due.target(x, 0, 2);
        Due.is("33 a target", x.sum(), ((7L * 31 + 300) * 31 + 2) * 31 + 309);
        Tongueworks y = new Tongueworks();
        y.begin();
        long due = 7;
        for (int i = 0; i < 80; i++) {
            y.add(i % 7 + 1);
            due = due * 31 + i % 7 + 1;
        }
        y.take();
        Due.is("33 as longs go round", y.sum(), due);
    }

    private static void shares() {
        Tongueworks x = new Tongueworks();
        Due.fails("34 none", Due.ARITHMETIC, () -> x.approvedShare());
        Due.version(x, 300);
        Due.fails("34 only pieces", Due.ARITHMETIC, () -> x.approvedShare());
        Due.version(x, 1, 0, 2, 0, 3, 0);
        Due.is("34 nothing approved", x.approvedShare(), 0f);
        Due.approve(x, 0, 9);
        Due.is("34 a third", x.approvedShare(), 1f / 3f);
        Due.approve(x, 1, 9);
        Due.is("34 two thirds", x.approvedShare(), 2f / 3f);
        Due.target(x, 2, 9);
        Due.is("34 drafts do not count", x.approvedShare(), 2f / 3f);
        Due.approve(x, 2, 9);
        Due.is("34 all", x.approvedShare(), 1f);
    }

    private static void means() {
        Tongueworks x = new Tongueworks();
        Due.fails("35 none", Due.ARITHMETIC, () -> x.meanValue());
        Due.version(x, 300);
        Due.fails("35 only pieces", Due.ARITHMETIC, () -> x.meanValue());
        Due.version(x, 1, 2, 0, 7, 0, 1, 3, 0);
        Due.is("35 an empty memory", x.meanValue(), 0.0);
        Due.approve(x, 0, 9);
        Due.is("35 the mean", x.meanValue(), (101.0 + 0 + 67) / 3.0);
        Due.approve(x, 2, 9);
        Due.is("35 with another entry", x.meanValue(), (101.0 + 0 + 101) / 3.0);
        Due.version(x, 7, 0);
        Due.is("35 none of all", x.meanValue(), 0.0);
    }

    private static void soundness() {
        Tongueworks x = Due.bench(300, 100, 1, 200, 0, 2, 0, 301, 2, 0);
        Due.is("36 new", x.isSound(), true);
        Due.approve(x, 0, 100, 9, 200);
        Due.approve(x, 1, 8);
        Due.is("36 approved", x.isSound(), true);
        x.write(0, 0, 100);
        Due.is("36 a draft may be ill tagged", x.isSound(), true);
        x.setException(2, true);
        Due.is("36 cut anew", x.isSound(), true);
        x.begin();
        x.add(300);
        Due.is("36 begun", x.isSound(), true);
        x.take();
        Due.is("36 only pieces", x.isSound(), true);
    }
}
